/-! CoilBench$Tokens.copy([BI)V -/
abbrev ws_X7_copy (G : Gx) (q_this : Nat) (q_text : Nat) (q_p1 : Nat) (q_kinds : Nat) (q_places : Nat) (q_values : Nat) (c_length : Int32) (c_size : Int32) (c_text : Nat → Int32) (c_p1 : Nat → Int32) : va_W := [(q_this, eO 6 [.ref q_text, .int c_length, .ref q_kinds, .ref q_places, .ref q_values, .int c_size]), (q_text, eB G 4000 c_text), (q_p1, eB G 4000 c_p1)]
theorem mY_X7_copy : vY yX7_copy cX7_copy 3 (none) 2 := ⟨W2_154, W1_3, ⟨by decide +kernel, by decide +kernel⟩, by decide +kernel⟩
theorem mI_X7_copy : vYi yX7_copy := ⟨W2_152, W2_153⟩
def f_X7_copy (x2 : Int32) (c_length : Int32) (c_text : Nat → Int32) (c_p1 : Nat → Int32) : Option (Int32 × (Nat → Int32)) := vlet ((xmax (0 : Int32) (xmin x2 (xmin (4000 : Int32) (4000 : Int32))))) fun t1 => if cpyok (0 : Int32) (0 : Int32) t1 4000 4000 = true then (if (∀ i, i < t1.toNatClampNeg → xi2b (c_p1 ((0 : Int32).toNatClampNeg + i)) = c_p1 ((0 : Int32).toNatClampNeg + i)) then (vlet (va_cpy c_p1 c_text (0 : Int32).toNatClampNeg (0 : Int32).toNatClampNeg t1.toNatClampNeg) fun w3 => some (t1, w3)) else none) else none
set_option maxHeartbeats 4000000 in
set_option maxRecDepth 100000 in
theorem c_X7_copy (G : Gx) (q_this : Nat) (q_text : Nat) (q_p1 : Nat) (q_kinds : Nat) (q_places : Nat) (q_values : Nat) (c_length : Int32) (c_size : Int32) (c_text : Nat → Int32) (c_p1 : Nat → Int32) (x2 : Int32) (R : Int32 × (Nat → Int32)) (hf : f_X7_copy x2 c_length c_text c_p1 = some R) : vM G yX7_copy cX7_copy 3 (none) 1 26 [.ref q_this, .ref q_p1, .int x2] (ws_X7_copy G q_this q_text q_p1 q_kinds q_places q_values c_length c_size c_text c_p1) none (ws_X7_copy G q_this q_text q_p1 q_kinds q_places q_values R.1 c_size R.2 c_p1) := by
  refine vM_of (by decide +kernel) (Nat.le_of_ble_eq_true rfl) [(0, .ref q_this), (1, .ref q_p1), (2, .int x2)] rfl (fun C hC hQ => ?_)
  have hC : vH G C cX7_copy RX7 3 (none) { frames := 1, cells := 0, slots := 0, locals := 26 } := hC
  rw [f_X7_copy] at hf
  refine g_aload_n (pc := 0) 0 hC dX7_copy_0 rfl ?_
  refine g_iconst (pc := 1) (0 : Int32) hC dX7_copy_1 rfl ?_
  refine g_iload_n (pc := 2) 2 hC dX7_copy_2 rfl ?_
  refine g_aload_n (pc := 3) 1 hC dX7_copy_3 rfl ?_
  refine g_alen (pc := 4) (v := (4000 : Int32)) 2 1 hC dX7_copy_4 rfl rfl rfl ?_
  refine g_sipush (pc := 5) (4000 : Int32) hC dX7_copy_5 rfl ?_
  refine g_mmin (pc := 8) hC W2_155 W2_156 W2_157 W1_12 dX7_copy_8 (Nat.le_of_ble_eq_true rfl) (Nat.le_of_ble_eq_true rfl) ⟨Nat.le_of_ble_eq_true rfl, Nat.le_of_ble_eq_true rfl⟩ ?_
  refine g_mmin (pc := 11) hC W2_155 W2_156 W2_157 W1_12 dX7_copy_11 (Nat.le_of_ble_eq_true rfl) (Nat.le_of_ble_eq_true rfl) ⟨Nat.le_of_ble_eq_true rfl, Nat.le_of_ble_eq_true rfl⟩ ?_
  refine g_mmax (pc := 14) hC W2_158 W2_159 W2_160 W1_12 dX7_copy_14 (Nat.le_of_ble_eq_true rfl) (Nat.le_of_ble_eq_true rfl) ⟨Nat.le_of_ble_eq_true rfl, Nat.le_of_ble_eq_true rfl⟩ ?_
  obtain ⟨t1, et1, hf⟩ := vlet_s hf
  refine g_nmi et1 ?_
  refine g_put (pc := 17) (ws2 := (ws_X7_copy G q_this q_text q_p1 q_kinds q_places q_values t1 c_size c_text c_p1)) 0 1 hC inX7 tyX7_ok nmX7 dX7_copy_17 W1_41 rfl rfl (Nat.le_of_ble_eq_true rfl) rfl rfl rfl rfl rfl (Nat.le_of_ble_eq_true rfl) rfl ?_
  refine g_aload_n (pc := 20) 1 hC dX7_copy_20 rfl ?_
  refine g_iconst (pc := 21) (0 : Int32) hC dX7_copy_21 rfl ?_
  refine g_aload_n (pc := 22) 0 hC dX7_copy_22 rfl ?_
  refine g_get (pc := 23) 0 0 hC inX7 dX7_copy_23 W1_40 rfl rfl (Nat.le_of_ble_eq_true rfl) rfl rfl ?_
  refine g_iconst (pc := 26) (0 : Int32) hC dX7_copy_26 rfl ?_
  refine g_aload_n (pc := 27) 0 hC dX7_copy_27 rfl ?_
  refine g_get (pc := 28) 0 1 hC inX7 dX7_copy_28 W1_41 rfl rfl (Nat.le_of_ble_eq_true rfl) rfl rfl ?_
  obtain ⟨⟨h2a, h2b, h2c, h2d, h2e⟩, hf⟩ := cpy_s hf
  obtain ⟨h2f, hf⟩ := ite_p hf
  obtain ⟨w3, ew3, hf⟩ := vlet_s hf
  refine g_copyB (pc := 31) (ws2 := (ws_X7_copy G q_this q_text q_p1 q_kinds q_places q_values t1 c_size w3 c_p1)) 2 1 hC W2_161 acN W2_162 W1_13 dX7_copy_31 rfl rfl h2a h2b h2c h2d h2e h2f (Nat.le_of_ble_eq_true rfl) (Nat.le_of_ble_eq_true rfl) ew3 rfl ?_
  obtain rfl := Option.some.inj hf
  exact g_vret (pc := 34) hC hQ dX7_copy_34
/-! CoilBench$Tokens.isDigit(I)Z -/
abbrev ws_X7_isDigit (G : Gx)  : va_W := []
theorem mY_X7_isDigit : vY yX7_isDigit cX7_isDigit 1 (some .boolean) 1 := ⟨W2_179, W1_3, ⟨by decide +kernel, by decide +kernel⟩, by decide +kernel⟩
def f_X7_isDigit (x0 : Int32) : Option (Int32) := if x0 < (48 : Int32) then (some (0 : Int32)) else (if (57 : Int32) < x0 then (some (0 : Int32)) else (some (1 : Int32)))
set_option maxHeartbeats 4000000 in
set_option maxRecDepth 100000 in
theorem c_X7_isDigit (G : Gx)  (x0 : Int32) (R : Int32) (hf : f_X7_isDigit x0 = some R) : vM G yX7_isDigit cX7_isDigit 1 (some .boolean) 0 0 [.int x0] (ws_X7_isDigit G) (some (.int R)) (ws_X7_isDigit G) := by
  refine vM_of (by decide +kernel) (Nat.le_of_ble_eq_true rfl) [(0, .int x0)] rfl (fun C hC hQ => ?_)
  have hC : vH G C cX7_isDigit RX7 1 (some .boolean) { frames := 0, cells := 0, slots := 0, locals := 0 } := hC
  rw [f_X7_isDigit] at hf
  refine g_iload_n (pc := 0) 0 hC dX7_isDigit_0 rfl ?_
  refine g_bipush (pc := 1) (48 : Int32) hC dX7_isDigit_1 rfl ?_
  refine g_icmp_lt (pc := 3) 16 hC dX7_isDigit_3 (by decide) (fun hb => ?_) (fun hb => ?_)
  · replace hf := ite_t hf hb
    refine g_iconst (pc := 16) (0 : Int32) hC dX7_isDigit_16 rfl ?_
    obtain rfl := Option.some.inj hf
    exact g_zret (pc := 17) hC rfl hQ dX7_isDigit_17
  · replace hf := ite_f hf hb
    refine g_iload_n (pc := 6) 0 hC dX7_isDigit_6 rfl ?_
    refine g_bipush (pc := 7) (57 : Int32) hC dX7_isDigit_7 rfl ?_
    refine g_icmp_gt (pc := 9) 16 hC dX7_isDigit_9 (by decide) (fun hb => ?_) (fun hb => ?_)
    · replace hf := ite_t hf hb
      refine g_iconst (pc := 16) (0 : Int32) hC dX7_isDigit_16 rfl ?_
      obtain rfl := Option.some.inj hf
      exact g_zret (pc := 17) hC rfl hQ dX7_isDigit_17
    · replace hf := ite_f hf hb
      refine g_iconst (pc := 12) (1 : Int32) hC dX7_isDigit_12 rfl ?_
      refine g_goto (pc := 13) 17 hC dX7_isDigit_13 (by decide) ?_
      obtain rfl := Option.some.inj hf
      exact g_zret (pc := 17) hC rfl hQ dX7_isDigit_17
/-! CoilBench$Tokens.isLetter(I)Z -/
abbrev ws_X7_isLetter (G : Gx)  : va_W := []
theorem mY_X7_isLetter : vY yX7_isLetter cX7_isLetter 1 (some .boolean) 1 := ⟨W2_182, W1_3, ⟨by decide +kernel, by decide +kernel⟩, by decide +kernel⟩
def f_X7_isLetter_24 : Option (Int32) := some (1 : Int32)
set_option maxHeartbeats 4000000 in
set_option maxRecDepth 100000 in
theorem w_X7_isLetter_24 {G : Gx} {C : Cx} (hC : vH G C cX7_isLetter RX7 1 (some .boolean) { frames := 0, cells := 0, slots := 0, locals := 0 })  (R : Int32) (hQ : vR G C 0 0 (some (.int R)) (ws_X7_isLetter G)) (hf : f_X7_isLetter_24 = some R) : vG G C 0 0 24 [] [] (ws_X7_isLetter G) := by
  rw [f_X7_isLetter_24] at hf
  refine g_iconst (pc := 24) (1 : Int32) hC dX7_isLetter_24 rfl ?_
  refine g_goto (pc := 25) 29 hC dX7_isLetter_25 (by decide) ?_
  obtain rfl := Option.some.inj hf
  exact g_zret (pc := 29) hC rfl hQ dX7_isLetter_29
def f_X7_isLetter_12 (x0 : Int32) : Option (Int32) := if x0 < (65 : Int32) then (some (0 : Int32)) else (if (90 : Int32) < x0 then (some (0 : Int32)) else ((f_X7_isLetter_24)))
set_option maxHeartbeats 4000000 in
set_option maxRecDepth 100000 in
theorem w_X7_isLetter_12 {G : Gx} {C : Cx} (hC : vH G C cX7_isLetter RX7 1 (some .boolean) { frames := 0, cells := 0, slots := 0, locals := 0 })  (R : Int32) (hQ : vR G C 0 0 (some (.int R)) (ws_X7_isLetter G)) (x0 : Int32) (hf : f_X7_isLetter_12 x0 = some R) : vG G C 0 0 12 [(0, .int x0)] [] (ws_X7_isLetter G) := by
  rw [f_X7_isLetter_12] at hf
  refine g_iload_n (pc := 12) 0 hC dX7_isLetter_12 rfl ?_
  refine g_bipush (pc := 13) (65 : Int32) hC dX7_isLetter_13 rfl ?_
  refine g_icmp_lt (pc := 15) 28 hC dX7_isLetter_15 (by decide) (fun hb => ?_) (fun hb => ?_)
  · replace hf := ite_t hf hb
    refine g_iconst (pc := 28) (0 : Int32) hC dX7_isLetter_28 rfl ?_
    obtain rfl := Option.some.inj hf
    exact g_zret (pc := 29) hC rfl hQ dX7_isLetter_29
  · replace hf := ite_f hf hb
    refine g_iload_n (pc := 18) 0 hC dX7_isLetter_18 rfl ?_
    refine g_bipush (pc := 19) (90 : Int32) hC dX7_isLetter_19 rfl ?_
    refine g_icmp_gt (pc := 21) 28 hC dX7_isLetter_21 (by decide) (fun hb => ?_) (fun hb => ?_)
    · replace hf := ite_t hf hb
      refine g_iconst (pc := 28) (0 : Int32) hC dX7_isLetter_28 rfl ?_
      obtain rfl := Option.some.inj hf
      exact g_zret (pc := 29) hC rfl hQ dX7_isLetter_29
    · replace hf := ite_f hf hb
      refine g_sub (lv2 := []) [] rfl ?_
      exact w_X7_isLetter_24 hC R hQ hf
def f_X7_isLetter (x0 : Int32) : Option (Int32) := if x0 < (97 : Int32) then ((f_X7_isLetter_12 x0)) else (if x0 ≤ (122 : Int32) then ((f_X7_isLetter_24)) else ((f_X7_isLetter_12 x0)))
set_option maxHeartbeats 4000000 in
set_option maxRecDepth 100000 in
theorem c_X7_isLetter (G : Gx)  (x0 : Int32) (R : Int32) (hf : f_X7_isLetter x0 = some R) : vM G yX7_isLetter cX7_isLetter 1 (some .boolean) 0 0 [.int x0] (ws_X7_isLetter G) (some (.int R)) (ws_X7_isLetter G) := by
  refine vM_of (by decide +kernel) (Nat.le_of_ble_eq_true rfl) [(0, .int x0)] rfl (fun C hC hQ => ?_)
  have hC : vH G C cX7_isLetter RX7 1 (some .boolean) { frames := 0, cells := 0, slots := 0, locals := 0 } := hC
  rw [f_X7_isLetter] at hf
  refine g_iload_n (pc := 0) 0 hC dX7_isLetter_0 rfl ?_
  refine g_bipush (pc := 1) (97 : Int32) hC dX7_isLetter_1 rfl ?_
  refine g_icmp_lt (pc := 3) 12 hC dX7_isLetter_3 (by decide) (fun hb => ?_) (fun hb => ?_)
  · replace hf := ite_t hf hb
    exact w_X7_isLetter_12 hC R hQ x0 hf
  · replace hf := ite_f hf hb
    refine g_iload_n (pc := 6) 0 hC dX7_isLetter_6 rfl ?_
    refine g_bipush (pc := 7) (122 : Int32) hC dX7_isLetter_7 rfl ?_
    refine g_icmp_le (pc := 9) 24 hC dX7_isLetter_9 (by decide) (fun hb => ?_) (fun hb => ?_)
    · replace hf := ite_t hf hb
      refine g_sub (lv2 := []) [] rfl ?_
      exact w_X7_isLetter_24 hC R hQ hf
    · replace hf := ite_f hf hb
      exact w_X7_isLetter_12 hC R hQ x0 hf
/-! CoilBench$Tokens.goesOn(I)Z -/
abbrev ws_X7_goesOn (G : Gx) (q_this : Nat) (q_kinds : Nat) (q_text : Nat) (q_places : Nat) (q_values : Nat) (c_length : Int32) (c_size : Int32) (c_kinds : Nat → Int32) : va_W := [(q_this, eO 6 [.ref q_text, .int c_length, .ref q_kinds, .ref q_places, .ref q_values, .int c_size]), (q_kinds, eI G 4001 c_kinds)]
theorem mY_X7_goesOn : vY yX7_goesOn cX7_goesOn 2 (some .boolean) 1 := ⟨W2_176, W1_3, ⟨by decide +kernel, by decide +kernel⟩, by decide +kernel⟩
theorem mI_X7_goesOn : vYi yX7_goesOn := ⟨W2_175, (tb_in (tb_s (q := (yX7_goesOn, 6)) (by decide +kernel)) rfl)⟩
def f_X7_goesOn_36 (c_size : Int32) (c_kinds : Nat → Int32) : Option (Int32) := some (1 : Int32)
set_option maxHeartbeats 4000000 in
set_option maxRecDepth 100000 in
theorem w_X7_goesOn_36 {G : Gx} {C : Cx} (hC : vH G C cX7_goesOn RX7 2 (some .boolean) { frames := 1, cells := 0, slots := 0, locals := 20 }) (q_this : Nat) (q_kinds : Nat) (q_text : Nat) (q_places : Nat) (q_values : Nat) (c_length : Int32) (c_size : Int32) (c_kinds : Nat → Int32) (R : Int32) (hQ : vR G C 0 0 (some (.int R)) (ws_X7_goesOn G q_this q_kinds q_text q_places q_values c_length c_size c_kinds)) (hf : f_X7_goesOn_36 c_size c_kinds = some R) : vG G C 0 0 36 [] [] (ws_X7_goesOn G q_this q_kinds q_text q_places q_values c_length c_size c_kinds) := by
  rw [f_X7_goesOn_36] at hf
  refine g_iconst (pc := 36) (1 : Int32) hC dX7_goesOn_36 rfl ?_
  refine g_goto (pc := 37) 41 hC dX7_goesOn_37 (by decide) ?_
  obtain rfl := Option.some.inj hf
  exact g_zret (pc := 41) hC rfl hQ dX7_goesOn_41
def f_X7_goesOn (x1 : Int32) (c_size : Int32) (c_kinds : Nat → Int32) : Option (Int32) := (f_X7_isDigit x1).bind fun r1 => if r1 = 0 then ((f_X7_isLetter x1).bind fun r2 => if r2 = 0 then (some (0 : Int32)) else (if c_size ≤ 0 then (some (0 : Int32)) else (if bad (c_size - (1 : Int32)) 4001 = true then none else if (c_kinds (c_size - (1 : Int32)).toNatClampNeg) = (1 : Int32) then ((f_X7_goesOn_36 c_size c_kinds)) else (some (0 : Int32))))) else ((f_X7_goesOn_36 c_size c_kinds))
set_option maxHeartbeats 4000000 in
set_option maxRecDepth 100000 in
theorem c_X7_goesOn (G : Gx) (q_this : Nat) (q_kinds : Nat) (q_text : Nat) (q_places : Nat) (q_values : Nat) (c_length : Int32) (c_size : Int32) (c_kinds : Nat → Int32) (x1 : Int32) (R : Int32) (hf : f_X7_goesOn x1 c_size c_kinds = some R) : vM G yX7_goesOn cX7_goesOn 2 (some .boolean) 1 20 [.ref q_this, .int x1] (ws_X7_goesOn G q_this q_kinds q_text q_places q_values c_length c_size c_kinds) (some (.int R)) (ws_X7_goesOn G q_this q_kinds q_text q_places q_values c_length c_size c_kinds) := by
  refine vM_of (by decide +kernel) (Nat.le_of_ble_eq_true rfl) [(0, .ref q_this), (1, .int x1)] rfl (fun C hC hQ => ?_)
  have hC : vH G C cX7_goesOn RX7 2 (some .boolean) { frames := 1, cells := 0, slots := 0, locals := 20 } := hC
  rw [f_X7_goesOn] at hf
  refine g_iload_n (pc := 0) 1 hC dX7_goesOn_0 rfl ?_
  obtain ⟨r1, hr1, hf⟩ := bnd_s hf
  refine g_callSi (pc := 1) (st := []) (wc2 := (ws_X7_isDigit G)) (ws2 := (ws_X7_goesOn G q_this q_kinds q_text q_places q_values c_length c_size c_kinds)) [] hC (c_X7_isDigit G x1 r1 hr1) mY_X7_isDigit W2_178 W2_177 dX7_goesOn_1 rfl rfl rfl rfl rfl rfl ⟨Nat.le_of_ble_eq_true rfl, Nat.le_of_ble_eq_true rfl⟩ ⟨Nat.le_refl 0, Nat.le_refl 0⟩ (Nat.le_of_ble_eq_true rfl) ?_
  refine g_if_ne (pc := 4) 36 hC dX7_goesOn_4 (by decide) (fun hb => ?_) (fun hb => ?_)
  · replace hf := ite_f hf hb
    refine g_sub (lv2 := []) [] rfl ?_
    exact w_X7_goesOn_36 hC q_this q_kinds q_text q_places q_values c_length c_size c_kinds R hQ hf
  · replace hf := ite_t hf hb
    refine g_iload_n (pc := 7) 1 hC dX7_goesOn_7 rfl ?_
    obtain ⟨r2, hr2, hf⟩ := bnd_s hf
    refine g_callSi (pc := 8) (st := []) (wc2 := (ws_X7_isLetter G)) (ws2 := (ws_X7_goesOn G q_this q_kinds q_text q_places q_values c_length c_size c_kinds)) [] hC (c_X7_isLetter G x1 r2 hr2) mY_X7_isLetter W2_181 W2_180 dX7_goesOn_8 rfl rfl rfl rfl rfl rfl ⟨Nat.le_of_ble_eq_true rfl, Nat.le_of_ble_eq_true rfl⟩ ⟨Nat.le_refl 0, Nat.le_refl 0⟩ (Nat.le_of_ble_eq_true rfl) ?_
    refine g_if_eq (pc := 11) 40 hC dX7_goesOn_11 (by decide) (fun hb => ?_) (fun hb => ?_)
    · replace hf := ite_t hf hb
      refine g_iconst (pc := 40) (0 : Int32) hC dX7_goesOn_40 rfl ?_
      obtain rfl := Option.some.inj hf
      exact g_zret (pc := 41) hC rfl hQ dX7_goesOn_41
    · replace hf := ite_f hf hb
      refine g_aload_n (pc := 14) 0 hC dX7_goesOn_14 rfl ?_
      refine g_get (pc := 15) 0 5 hC inX7 dX7_goesOn_15 W1_48 rfl rfl (Nat.le_of_ble_eq_true rfl) rfl rfl ?_
      refine g_if_le (pc := 18) 40 hC dX7_goesOn_18 (by decide) (fun hb => ?_) (fun hb => ?_)
      · replace hf := ite_t hf hb
        refine g_iconst (pc := 40) (0 : Int32) hC dX7_goesOn_40 rfl ?_
        obtain rfl := Option.some.inj hf
        exact g_zret (pc := 41) hC rfl hQ dX7_goesOn_41
      · replace hf := ite_f hf hb
        refine g_aload_n (pc := 21) 0 hC dX7_goesOn_21 rfl ?_
        refine g_get (pc := 22) 0 2 hC inX7 dX7_goesOn_22 W1_42 rfl rfl (Nat.le_of_ble_eq_true rfl) rfl rfl ?_
        refine g_aload_n (pc := 25) 0 hC dX7_goesOn_25 rfl ?_
        refine g_get (pc := 26) 0 5 hC inX7 dX7_goesOn_26 W1_48 rfl rfl (Nat.le_of_ble_eq_true rfl) rfl rfl ?_
        refine g_iconst (pc := 29) (1 : Int32) hC dX7_goesOn_29 rfl ?_
        refine g_isub (pc := 30) hC dX7_goesOn_30 ?_
        obtain ⟨h3, hf⟩ := bad_s hf
        refine g_iald (pc := 31) 1 hC dX7_goesOn_31 rfl h3 ?_
        refine g_iconst (pc := 32) (1 : Int32) hC dX7_goesOn_32 rfl ?_
        refine g_icmp_ne (pc := 33) 40 hC dX7_goesOn_33 (by decide) (fun hb => ?_) (fun hb => ?_)
        · replace hf := ite_f hf hb
          refine g_iconst (pc := 40) (0 : Int32) hC dX7_goesOn_40 rfl ?_
          obtain rfl := Option.some.inj hf
          exact g_zret (pc := 41) hC rfl hQ dX7_goesOn_41
        · replace hf := ite_t hf hb
          refine g_sub (lv2 := []) [] rfl ?_
          exact w_X7_goesOn_36 hC q_this q_kinds q_text q_places q_values c_length c_size c_kinds R hQ hf
/-! CoilBench$Tokens.extend(II)V -/
abbrev ws_X7_extend (G : Gx) (q_this : Nat) (q_kinds : Nat) (q_places : Nat) (q_values : Nat) (q_text : Nat) (c_length : Int32) (c_size : Int32) (c_kinds : Nat → Int32) (c_places : Nat → Int32) (c_values : Nat → Int64) : va_W := [(q_this, eO 6 [.ref q_text, .int c_length, .ref q_kinds, .ref q_places, .ref q_values, .int c_size]), (q_kinds, eI G 4001 c_kinds), (q_places, eI G 4001 c_places), (q_values, eJ G 4001 c_values)]
theorem mY_X7_extend : vY yX7_extend cX7_extend 5 (none) 2 := ⟨W2_186, W1_3, ⟨by decide +kernel, by decide +kernel⟩, by decide +kernel⟩
theorem mI_X7_extend : vYi yX7_extend := ⟨W2_185, (tb_in (tb_s (q := (yX7_extend, 6)) (by decide +kernel)) rfl)⟩
def f_X7_extend_58 (c_size : Int32) (c_places : Nat → Int32) (x2 : Int32) (x3 : Int32) (x4 : Int32) (c_kinds : Nat → Int32) (c_values : Nat → Int64) : Option ((Nat → Int32) × (Nat → Int64)) := if x4 = 0 then (if bad x3 4001 = true then none else vlet (((((c_values x3.toNatClampNeg) * (10 : Int64)) + x2.toInt64) - (48 : Int64))) fun t2 => if bad x3 4001 = true then none else vlet (vp_updL c_values x3.toNatClampNeg t2) fun w4 => some (c_kinds, w4)) else (if bad x3 4001 = true then none else vlet (((xlshl (c_values x3.toNatClampNeg) (8 : Int32)) ||| x2.toInt64)) fun t6 => if bad x3 4001 = true then none else vlet (vp_updL c_values x3.toNatClampNeg t6) fun w8 => some (c_kinds, w8))
set_option maxHeartbeats 4000000 in
set_option maxRecDepth 100000 in
theorem w_X7_extend_58 {G : Gx} {C : Cx} (hC : vH G C cX7_extend RX7 5 (none) { frames := 0, cells := 0, slots := 0, locals := 0 }) (q_this : Nat) (q_kinds : Nat) (q_places : Nat) (q_values : Nat) (q_text : Nat) (c_length : Int32) (c_size : Int32) (c_places : Nat → Int32) (R : (Nat → Int32) × (Nat → Int64)) (hQ : vR G C 0 0 none (ws_X7_extend G q_this q_kinds q_places q_values q_text c_length c_size R.1 c_places R.2)) (x2 : Int32) (x3 : Int32) (x4 : Int32) (c_kinds : Nat → Int32) (c_values : Nat → Int64) (hf : f_X7_extend_58 c_size c_places x2 x3 x4 c_kinds c_values = some R) : vG G C 0 0 58 [(0, .ref q_this), (2, .int x2), (3, .int x3), (4, .int x4)] [] (ws_X7_extend G q_this q_kinds q_places q_values q_text c_length c_size c_kinds c_places c_values) := by
  rw [f_X7_extend_58] at hf
  refine g_aload_n (pc := 58) 0 hC dX7_extend_58 rfl ?_
  refine g_get (pc := 59) 0 4 hC inX7 dX7_extend_59 W1_46 rfl rfl (Nat.le_of_ble_eq_true rfl) rfl rfl ?_
  refine g_iload_n (pc := 62) 2 hC dX7_extend_62 rfl ?_
  refine g_iload (pc := 63) 3 hC dX7_extend_63 rfl ?_
  refine g_if_eq (pc := 65) 83 hC dX7_extend_65 (by decide) (fun hb => ?_) (fun hb => ?_)
  · replace hf := ite_t hf hb
    refine g_aload_n (pc := 83) 0 hC dX7_extend_83 rfl ?_
    refine g_get (pc := 84) 0 4 hC inX7 dX7_extend_84 W1_46 rfl rfl (Nat.le_of_ble_eq_true rfl) rfl rfl ?_
    refine g_iload_n (pc := 87) 2 hC dX7_extend_87 rfl ?_
    obtain ⟨h1, hf⟩ := bad_s hf
    refine g_lald (pc := 88) 3 hC dX7_extend_88 rfl h1 ?_
    refine g_ldc2 (pc := 89) hC dX7_extend_89 W2_187 ?_
    refine g_lmul (pc := 92) hC dX7_extend_92 ?_
    refine g_iload_n (pc := 93) 1 hC dX7_extend_93 rfl ?_
    refine g_i2l (pc := 94) hC dX7_extend_94 ?_
    refine g_ladd (pc := 95) hC dX7_extend_95 ?_
    refine g_ldc2 (pc := 96) hC dX7_extend_96 W2_188 ?_
    refine g_lsub (pc := 99) hC dX7_extend_99 ?_
    obtain ⟨t2, et2, hf⟩ := vlet_s hf
    refine g_nml et2 ?_
    obtain ⟨h3, hf⟩ := bad_s hf
    obtain ⟨w4, ew4, hf⟩ := vlet_s hf
    refine g_last (pc := 100) (ws2 := (ws_X7_extend G q_this q_kinds q_places q_values q_text c_length c_size c_kinds c_places w4)) 3 hC dX7_extend_100 rfl h3 ew4 rfl ?_
    obtain rfl := Option.some.inj hf
    exact g_vret (pc := 101) hC hQ dX7_extend_101
  · replace hf := ite_f hf hb
    refine g_aload_n (pc := 68) 0 hC dX7_extend_68 rfl ?_
    refine g_get (pc := 69) 0 4 hC inX7 dX7_extend_69 W1_46 rfl rfl (Nat.le_of_ble_eq_true rfl) rfl rfl ?_
    refine g_iload_n (pc := 72) 2 hC dX7_extend_72 rfl ?_
    obtain ⟨h5, hf⟩ := bad_s hf
    refine g_lald (pc := 73) 3 hC dX7_extend_73 rfl h5 ?_
    refine g_bipush (pc := 74) (8 : Int32) hC dX7_extend_74 rfl ?_
    refine g_lshl (pc := 76) hC dX7_extend_76 ?_
    refine g_iload_n (pc := 77) 1 hC dX7_extend_77 rfl ?_
    refine g_i2l (pc := 78) hC dX7_extend_78 ?_
    refine g_lor (pc := 79) hC dX7_extend_79 ?_
    refine g_goto (pc := 80) 100 hC dX7_extend_80 (by decide) ?_
    obtain ⟨t6, et6, hf⟩ := vlet_s hf
    refine g_nml et6 ?_
    obtain ⟨h7, hf⟩ := bad_s hf
    obtain ⟨w8, ew8, hf⟩ := vlet_s hf
    refine g_last (pc := 100) (ws2 := (ws_X7_extend G q_this q_kinds q_places q_values q_text c_length c_size c_kinds c_places w8)) 3 hC dX7_extend_100 rfl h7 ew8 rfl ?_
    obtain rfl := Option.some.inj hf
    exact g_vret (pc := 101) hC hQ dX7_extend_101
def f_X7_extend_48 (c_size : Int32) (c_places : Nat → Int32) (x2 : Int32) (x3 : Int32) (x4 : Int32) (y0 : Int32) (y1 : Int32) (c_kinds : Nat → Int32) (c_values : Nat → Int64) : Option ((Nat → Int32) × (Nat → Int64)) := if y0 < y1 then ((f_X7_extend_58 c_size c_places x2 x3 x4 c_kinds c_values)) else (if bad x3 4001 = true then none else vlet (upd c_kinds x3.toNatClampNeg (4 : Int32)) fun w2 => (f_X7_extend_58 c_size c_places x2 x3 x4 w2 c_values))
set_option maxHeartbeats 4000000 in
set_option maxRecDepth 100000 in
theorem w_X7_extend_48 {G : Gx} {C : Cx} (hC : vH G C cX7_extend RX7 5 (none) { frames := 0, cells := 0, slots := 0, locals := 0 }) (q_this : Nat) (q_kinds : Nat) (q_places : Nat) (q_values : Nat) (q_text : Nat) (c_length : Int32) (c_size : Int32) (c_places : Nat → Int32) (R : (Nat → Int32) × (Nat → Int64)) (hQ : vR G C 0 0 none (ws_X7_extend G q_this q_kinds q_places q_values q_text c_length c_size R.1 c_places R.2)) (x2 : Int32) (x3 : Int32) (x4 : Int32) (y0 : Int32) (y1 : Int32) (c_kinds : Nat → Int32) (c_values : Nat → Int64) (hf : f_X7_extend_48 c_size c_places x2 x3 x4 y0 y1 c_kinds c_values = some R) : vG G C 0 0 48 [(0, .ref q_this), (2, .int x2), (3, .int x3), (4, .int x4)] [.int y1, .int y0] (ws_X7_extend G q_this q_kinds q_places q_values q_text c_length c_size c_kinds c_places c_values) := by
  rw [f_X7_extend_48] at hf
  refine g_icmp_lt (pc := 48) 58 hC dX7_extend_48 (by decide) (fun hb => ?_) (fun hb => ?_)
  · replace hf := ite_t hf hb
    exact w_X7_extend_58 hC q_this q_kinds q_places q_values q_text c_length c_size c_places R hQ x2 x3 x4 c_kinds c_values hf
  · replace hf := ite_f hf hb
    refine g_aload_n (pc := 51) 0 hC dX7_extend_51 rfl ?_
    refine g_get (pc := 52) 0 2 hC inX7 dX7_extend_52 W1_42 rfl rfl (Nat.le_of_ble_eq_true rfl) rfl rfl ?_
    refine g_iload_n (pc := 55) 2 hC dX7_extend_55 rfl ?_
    refine g_iconst (pc := 56) (4 : Int32) hC dX7_extend_56 rfl ?_
    obtain ⟨h1, hf⟩ := bad_s hf
    obtain ⟨w2, ew2, hf⟩ := vlet_s hf
    refine g_iast (pc := 57) (ws2 := (ws_X7_extend G q_this q_kinds q_places q_values q_text c_length c_size w2 c_places c_values)) 1 hC dX7_extend_57 rfl h1 ew2 rfl ?_
    exact w_X7_extend_58 hC q_this q_kinds q_places q_values q_text c_length c_size c_places R hQ x2 x3 x4 w2 c_values hf
def f_X7_extend_27 (c_size : Int32) (c_places : Nat → Int32) (x1 : Int32) (x2 : Int32) (x3 : Int32) (y0 : Int32) (c_kinds : Nat → Int32) (c_values : Nat → Int64) : Option ((Nat → Int32) × (Nat → Int64)) := if bad x3 4001 = true then none else if y0 = 0 then ((f_X7_extend_48 c_size c_places x2 x3 y0 (x1 - (c_places x3.toNatClampNeg)) (4 : Int32) c_kinds c_values)) else ((f_X7_extend_48 c_size c_places x2 x3 y0 (x1 - (c_places x3.toNatClampNeg)) (8 : Int32) c_kinds c_values))
set_option maxHeartbeats 4000000 in
set_option maxRecDepth 100000 in
theorem w_X7_extend_27 {G : Gx} {C : Cx} (hC : vH G C cX7_extend RX7 5 (none) { frames := 0, cells := 0, slots := 0, locals := 0 }) (q_this : Nat) (q_kinds : Nat) (q_places : Nat) (q_values : Nat) (q_text : Nat) (c_length : Int32) (c_size : Int32) (c_places : Nat → Int32) (R : (Nat → Int32) × (Nat → Int64)) (hQ : vR G C 0 0 none (ws_X7_extend G q_this q_kinds q_places q_values q_text c_length c_size R.1 c_places R.2)) (x1 : Int32) (x2 : Int32) (x3 : Int32) (y0 : Int32) (c_kinds : Nat → Int32) (c_values : Nat → Int64) (hf : f_X7_extend_27 c_size c_places x1 x2 x3 y0 c_kinds c_values = some R) : vG G C 0 0 27 [(0, .ref q_this), (1, .int x1), (2, .int x2), (3, .int x3)] [.int y0] (ws_X7_extend G q_this q_kinds q_places q_values q_text c_length c_size c_kinds c_places c_values) := by
  rw [f_X7_extend_27] at hf
  refine g_istore (pc := 27) [(4, .int y0), (0, .ref q_this), (1, .int x1), (2, .int x2), (3, .int x3)] hC dX7_extend_27 (Nat.le_of_ble_eq_true rfl) rfl ?_
  refine g_iload_n (pc := 29) 2 hC dX7_extend_29 rfl ?_
  refine g_aload_n (pc := 30) 1 hC dX7_extend_30 rfl ?_
  refine g_get (pc := 31) 0 3 hC inX7 dX7_extend_31 W1_44 rfl rfl (Nat.le_of_ble_eq_true rfl) rfl rfl ?_
  refine g_iload_n (pc := 34) 4 hC dX7_extend_34 rfl ?_
  obtain ⟨h1, hf⟩ := bad_s hf
  refine g_iald (pc := 35) 2 hC dX7_extend_35 rfl h1 ?_
  refine g_isub (pc := 36) hC dX7_extend_36 ?_
  refine g_iload (pc := 37) 0 hC dX7_extend_37 rfl ?_
  refine g_if_eq (pc := 39) 47 hC dX7_extend_39 (by decide) (fun hb => ?_) (fun hb => ?_)
  · replace hf := ite_t hf hb
    refine g_iconst (pc := 47) (4 : Int32) hC dX7_extend_47 rfl ?_
    refine g_sub (lv2 := [(0, .ref q_this), (2, .int x2), (3, .int x3), (4, .int y0)]) [1, 3, 4, 0] rfl ?_
    exact w_X7_extend_48 hC q_this q_kinds q_places q_values q_text c_length c_size c_places R hQ x2 x3 y0 (x1 - (c_places x3.toNatClampNeg)) (4 : Int32) c_kinds c_values hf
  · replace hf := ite_f hf hb
    refine g_bipush (pc := 42) (8 : Int32) hC dX7_extend_42 rfl ?_
    refine g_goto (pc := 44) 48 hC dX7_extend_44 (by decide) ?_
    refine g_sub (lv2 := [(0, .ref q_this), (2, .int x2), (3, .int x3), (4, .int y0)]) [1, 3, 4, 0] rfl ?_
    exact w_X7_extend_48 hC q_this q_kinds q_places q_values q_text c_length c_size c_places R hQ x2 x3 y0 (x1 - (c_places x3.toNatClampNeg)) (8 : Int32) c_kinds c_values hf
def f_X7_extend (x1 : Int32) (x2 : Int32) (c_size : Int32) (c_kinds : Nat → Int32) (c_places : Nat → Int32) (c_values : Nat → Int64) : Option ((Nat → Int32) × (Nat → Int64)) := vlet ((c_size - (1 : Int32))) fun t1 => if 0 ≤ t1 then (if bad t1 4001 = true then none else if (c_kinds t1.toNatClampNeg) = (1 : Int32) then ((f_X7_extend_27 c_size c_places x1 x2 t1 (1 : Int32) c_kinds c_values)) else ((f_X7_extend_27 c_size c_places x1 x2 t1 (0 : Int32) c_kinds c_values))) else (some (c_kinds, c_values))
set_option maxHeartbeats 4000000 in
set_option maxRecDepth 100000 in
theorem c_X7_extend (G : Gx) (q_this : Nat) (q_kinds : Nat) (q_places : Nat) (q_values : Nat) (q_text : Nat) (c_length : Int32) (c_size : Int32) (c_kinds : Nat → Int32) (c_places : Nat → Int32) (c_values : Nat → Int64) (x1 : Int32) (x2 : Int32) (R : (Nat → Int32) × (Nat → Int64)) (hf : f_X7_extend x1 x2 c_size c_kinds c_places c_values = some R) : vM G yX7_extend cX7_extend 5 (none) 0 0 [.ref q_this, .int x1, .int x2] (ws_X7_extend G q_this q_kinds q_places q_values q_text c_length c_size c_kinds c_places c_values) none (ws_X7_extend G q_this q_kinds q_places q_values q_text c_length c_size R.1 c_places R.2) := by
  refine vM_of (by decide +kernel) (Nat.le_of_ble_eq_true rfl) [(0, .ref q_this), (1, .int x1), (2, .int x2)] rfl (fun C hC hQ => ?_)
  have hC : vH G C cX7_extend RX7 5 (none) { frames := 0, cells := 0, slots := 0, locals := 0 } := hC
  rw [f_X7_extend] at hf
  refine g_aload_n (pc := 0) 0 hC dX7_extend_0 rfl ?_
  refine g_get (pc := 1) 0 5 hC inX7 dX7_extend_1 W1_48 rfl rfl (Nat.le_of_ble_eq_true rfl) rfl rfl ?_
  refine g_iconst (pc := 4) (1 : Int32) hC dX7_extend_4 rfl ?_
  refine g_isub (pc := 5) hC dX7_extend_5 ?_
  obtain ⟨t1, et1, hf⟩ := vlet_s hf
  refine g_nmi et1 ?_
  refine g_istore_n (pc := 6) [(3, .int t1), (0, .ref q_this), (1, .int x1), (2, .int x2)] hC dX7_extend_6 (Nat.le_of_ble_eq_true rfl) rfl ?_
  refine g_iload_n (pc := 7) 0 hC dX7_extend_7 rfl ?_
  refine g_if_ge (pc := 8) 12 hC dX7_extend_8 (by decide) (fun hb => ?_) (fun hb => ?_)
  · replace hf := ite_t hf hb
    refine g_aload_n (pc := 12) 1 hC dX7_extend_12 rfl ?_
    refine g_get (pc := 13) 0 2 hC inX7 dX7_extend_13 W1_42 rfl rfl (Nat.le_of_ble_eq_true rfl) rfl rfl ?_
    refine g_iload_n (pc := 16) 0 hC dX7_extend_16 rfl ?_
    obtain ⟨h2, hf⟩ := bad_s hf
    refine g_iald (pc := 17) 1 hC dX7_extend_17 rfl h2 ?_
    refine g_iconst (pc := 18) (1 : Int32) hC dX7_extend_18 rfl ?_
    refine g_icmp_ne (pc := 19) 26 hC dX7_extend_19 (by decide) (fun hb => ?_) (fun hb => ?_)
    · replace hf := ite_f hf hb
      refine g_iconst (pc := 26) (0 : Int32) hC dX7_extend_26 rfl ?_
      refine g_sub (lv2 := [(0, .ref q_this), (1, .int x1), (2, .int x2), (3, .int t1)]) [1, 2, 3, 0] rfl ?_
      exact w_X7_extend_27 hC q_this q_kinds q_places q_values q_text c_length c_size c_places R hQ x1 x2 t1 (0 : Int32) c_kinds c_values hf
    · replace hf := ite_t hf hb
      refine g_iconst (pc := 22) (1 : Int32) hC dX7_extend_22 rfl ?_
      refine g_goto (pc := 23) 27 hC dX7_extend_23 (by decide) ?_
      refine g_sub (lv2 := [(0, .ref q_this), (1, .int x1), (2, .int x2), (3, .int t1)]) [1, 2, 3, 0] rfl ?_
      exact w_X7_extend_27 hC q_this q_kinds q_places q_values q_text c_length c_size c_places R hQ x1 x2 t1 (1 : Int32) c_kinds c_values hf
  · replace hf := ite_f hf hb
    obtain rfl := Option.some.inj hf
    exact g_vret (pc := 11) hC hQ dX7_extend_11
/-! CoilBench$Tokens.isBlank(I)Z -/
abbrev ws_X7_isBlank (G : Gx)  : va_W := []
theorem mY_X7_isBlank : vY yX7_isBlank cX7_isBlank 1 (some .boolean) 1 := ⟨W2_191, W1_3, ⟨by decide +kernel, by decide +kernel⟩, by decide +kernel⟩
def f_X7_isBlank_12 : Option (Int32) := some (1 : Int32)
set_option maxHeartbeats 4000000 in
set_option maxRecDepth 100000 in
theorem w_X7_isBlank_12 {G : Gx} {C : Cx} (hC : vH G C cX7_isBlank RX7 1 (some .boolean) { frames := 0, cells := 0, slots := 0, locals := 0 })  (R : Int32) (hQ : vR G C 0 0 (some (.int R)) (ws_X7_isBlank G)) (hf : f_X7_isBlank_12 = some R) : vG G C 0 0 12 [] [] (ws_X7_isBlank G) := by
  rw [f_X7_isBlank_12] at hf
  refine g_iconst (pc := 12) (1 : Int32) hC dX7_isBlank_12 rfl ?_
  refine g_goto (pc := 13) 17 hC dX7_isBlank_13 (by decide) ?_
  obtain rfl := Option.some.inj hf
  exact g_zret (pc := 17) hC rfl hQ dX7_isBlank_17
def f_X7_isBlank (x0 : Int32) : Option (Int32) := if x0 = (32 : Int32) then ((f_X7_isBlank_12)) else (if x0 = (10 : Int32) then ((f_X7_isBlank_12)) else (some (0 : Int32)))
set_option maxHeartbeats 4000000 in
set_option maxRecDepth 100000 in
theorem c_X7_isBlank (G : Gx)  (x0 : Int32) (R : Int32) (hf : f_X7_isBlank x0 = some R) : vM G yX7_isBlank cX7_isBlank 1 (some .boolean) 0 0 [.int x0] (ws_X7_isBlank G) (some (.int R)) (ws_X7_isBlank G) := by
  refine vM_of (by decide +kernel) (Nat.le_of_ble_eq_true rfl) [(0, .int x0)] rfl (fun C hC hQ => ?_)
  have hC : vH G C cX7_isBlank RX7 1 (some .boolean) { frames := 0, cells := 0, slots := 0, locals := 0 } := hC
  rw [f_X7_isBlank] at hf
  refine g_iload_n (pc := 0) 0 hC dX7_isBlank_0 rfl ?_
  refine g_bipush (pc := 1) (32 : Int32) hC dX7_isBlank_1 rfl ?_
  refine g_icmp_eq (pc := 3) 12 hC dX7_isBlank_3 (by decide) (fun hb => ?_) (fun hb => ?_)
  · replace hf := ite_t hf hb
    refine g_sub (lv2 := []) [] rfl ?_
    exact w_X7_isBlank_12 hC R hQ hf
  · replace hf := ite_f hf hb
    refine g_iload_n (pc := 6) 0 hC dX7_isBlank_6 rfl ?_
    refine g_bipush (pc := 7) (10 : Int32) hC dX7_isBlank_7 rfl ?_
    refine g_icmp_ne (pc := 9) 16 hC dX7_isBlank_9 (by decide) (fun hb => ?_) (fun hb => ?_)
    · replace hf := ite_f hf hb
      refine g_iconst (pc := 16) (0 : Int32) hC dX7_isBlank_16 rfl ?_
      obtain rfl := Option.some.inj hf
      exact g_zret (pc := 17) hC rfl hQ dX7_isBlank_17
    · replace hf := ite_t hf hb
      refine g_sub (lv2 := []) [] rfl ?_
      exact w_X7_isBlank_12 hC R hQ hf
/-! CoilBench$Tokens.put(IIJ)V -/
abbrev ws_X7_put (G : Gx) (q_this : Nat) (q_kinds : Nat) (q_places : Nat) (q_values : Nat) (q_text : Nat) (c_length : Int32) (c_size : Int32) (c_kinds : Nat → Int32) (c_places : Nat → Int32) (c_values : Nat → Int64) : va_W := [(q_this, eO 6 [.ref q_text, .int c_length, .ref q_kinds, .ref q_places, .ref q_values, .int c_size]), (q_kinds, eI G 4001 c_kinds), (q_places, eI G 4001 c_places), (q_values, eJ G 4001 c_values)]
theorem mY_X7_put : vY yX7_put cX7_put 5 (none) 3 := ⟨W2_199, W1_3, ⟨by decide +kernel, by decide +kernel⟩, by decide +kernel⟩
theorem mI_X7_put : vYi yX7_put := ⟨W2_198, (tb_in (tb_s (q := (yX7_put, 6)) (by decide +kernel)) rfl)⟩
def f_X7_put (x1 : Int32) (x2 : Int32) (x3 : Int64) (c_size : Int32) (c_kinds : Nat → Int32) (c_places : Nat → Int32) (c_values : Nat → Int64) : Option (Int32 × (Nat → Int32) × (Nat → Int32) × (Nat → Int64)) := if (4001 : Int32) ≤ c_size then (some (c_size, c_kinds, c_places, c_values)) else (if bad c_size 4001 = true then none else vlet (upd c_kinds c_size.toNatClampNeg x1) fun w2 => if bad c_size 4001 = true then none else vlet (upd c_places c_size.toNatClampNeg x2) fun w4 => if bad c_size 4001 = true then none else vlet (vp_updL c_values c_size.toNatClampNeg x3) fun w6 => vlet ((c_size + (1 : Int32))) fun t7 => some (t7, w2, w4, w6))
set_option maxHeartbeats 4000000 in
set_option maxRecDepth 100000 in
theorem c_X7_put (G : Gx) (q_this : Nat) (q_kinds : Nat) (q_places : Nat) (q_values : Nat) (q_text : Nat) (c_length : Int32) (c_size : Int32) (c_kinds : Nat → Int32) (c_places : Nat → Int32) (c_values : Nat → Int64) (x1 : Int32) (x2 : Int32) (x3 : Int64) (R : Int32 × (Nat → Int32) × (Nat → Int32) × (Nat → Int64)) (hf : f_X7_put x1 x2 x3 c_size c_kinds c_places c_values = some R) : vM G yX7_put cX7_put 5 (none) 0 0 [.ref q_this, .int x1, .int x2, .long x3] (ws_X7_put G q_this q_kinds q_places q_values q_text c_length c_size c_kinds c_places c_values) none (ws_X7_put G q_this q_kinds q_places q_values q_text c_length R.1 R.2.1 R.2.2.1 R.2.2.2) := by
  refine vM_of (by decide +kernel) (Nat.le_of_ble_eq_true rfl) [(0, .ref q_this), (1, .int x1), (2, .int x2), (3, .long x3)] rfl (fun C hC hQ => ?_)
  have hC : vH G C cX7_put RX7 5 (none) { frames := 0, cells := 0, slots := 0, locals := 0 } := hC
  rw [f_X7_put] at hf
  refine g_aload_n (pc := 0) 0 hC dX7_put_0 rfl ?_
  refine g_get (pc := 1) 0 5 hC inX7 dX7_put_1 W1_48 rfl rfl (Nat.le_of_ble_eq_true rfl) rfl rfl ?_
  refine g_sipush (pc := 4) (4001 : Int32) hC dX7_put_4 rfl ?_
  refine g_icmp_ge (pc := 7) 50 hC dX7_put_7 (by decide) (fun hb => ?_) (fun hb => ?_)
  · replace hf := ite_t hf hb
    obtain rfl := Option.some.inj hf
    exact g_vret (pc := 50) hC hQ dX7_put_50
  · replace hf := ite_f hf hb
    refine g_aload_n (pc := 10) 0 hC dX7_put_10 rfl ?_
    refine g_get (pc := 11) 0 2 hC inX7 dX7_put_11 W1_42 rfl rfl (Nat.le_of_ble_eq_true rfl) rfl rfl ?_
    refine g_aload_n (pc := 14) 0 hC dX7_put_14 rfl ?_
    refine g_get (pc := 15) 0 5 hC inX7 dX7_put_15 W1_48 rfl rfl (Nat.le_of_ble_eq_true rfl) rfl rfl ?_
    refine g_iload_n (pc := 18) 1 hC dX7_put_18 rfl ?_
    obtain ⟨h1, hf⟩ := bad_s hf
    obtain ⟨w2, ew2, hf⟩ := vlet_s hf
    refine g_iast (pc := 19) (ws2 := (ws_X7_put G q_this q_kinds q_places q_values q_text c_length c_size w2 c_places c_values)) 1 hC dX7_put_19 rfl h1 ew2 rfl ?_
    refine g_aload_n (pc := 20) 0 hC dX7_put_20 rfl ?_
    refine g_get (pc := 21) 0 3 hC inX7 dX7_put_21 W1_44 rfl rfl (Nat.le_of_ble_eq_true rfl) rfl rfl ?_
    refine g_aload_n (pc := 24) 0 hC dX7_put_24 rfl ?_
    refine g_get (pc := 25) 0 5 hC inX7 dX7_put_25 W1_48 rfl rfl (Nat.le_of_ble_eq_true rfl) rfl rfl ?_
    refine g_iload_n (pc := 28) 2 hC dX7_put_28 rfl ?_
    obtain ⟨h3, hf⟩ := bad_s hf
    obtain ⟨w4, ew4, hf⟩ := vlet_s hf
    refine g_iast (pc := 29) (ws2 := (ws_X7_put G q_this q_kinds q_places q_values q_text c_length c_size w2 w4 c_values)) 2 hC dX7_put_29 rfl h3 ew4 rfl ?_
    refine g_aload_n (pc := 30) 0 hC dX7_put_30 rfl ?_
    refine g_get (pc := 31) 0 4 hC inX7 dX7_put_31 W1_46 rfl rfl (Nat.le_of_ble_eq_true rfl) rfl rfl ?_
    refine g_aload_n (pc := 34) 0 hC dX7_put_34 rfl ?_
    refine g_get (pc := 35) 0 5 hC inX7 dX7_put_35 W1_48 rfl rfl (Nat.le_of_ble_eq_true rfl) rfl rfl ?_
    refine g_lload_n (pc := 38) 3 hC dX7_put_38 rfl ?_
    obtain ⟨h5, hf⟩ := bad_s hf
    obtain ⟨w6, ew6, hf⟩ := vlet_s hf
    refine g_last (pc := 39) (ws2 := (ws_X7_put G q_this q_kinds q_places q_values q_text c_length c_size w2 w4 w6)) 3 hC dX7_put_39 rfl h5 ew6 rfl ?_
    refine g_aload_n (pc := 40) 0 hC dX7_put_40 rfl ?_
    refine g_dup (pc := 41) rfl hC dX7_put_41 ?_
    refine g_get (pc := 42) 0 5 hC inX7 dX7_put_42 W1_48 rfl rfl (Nat.le_of_ble_eq_true rfl) rfl rfl ?_
    refine g_iconst (pc := 45) (1 : Int32) hC dX7_put_45 rfl ?_
    refine g_iadd (pc := 46) hC dX7_put_46 ?_
    obtain ⟨t7, et7, hf⟩ := vlet_s hf
    refine g_nmi et7 ?_
    refine g_put (pc := 47) (ws2 := (ws_X7_put G q_this q_kinds q_places q_values q_text c_length t7 w2 w4 w6)) 0 5 hC inX7 tyX7_ok nmX7 dX7_put_47 W1_48 rfl rfl (Nat.le_of_ble_eq_true rfl) rfl rfl rfl rfl rfl (Nat.le_of_ble_eq_true rfl) rfl ?_
    obtain rfl := Option.some.inj hf
    exact g_vret (pc := 50) hC hQ dX7_put_50
/-! CoilBench$Tokens.begin(II)V -/
abbrev ws_X7_begin (G : Gx) (q_this : Nat) (q_kinds : Nat) (q_places : Nat) (q_values : Nat) (q_text : Nat) (c_length : Int32) (c_size : Int32) (c_kinds : Nat → Int32) (c_places : Nat → Int32) (c_values : Nat → Int64) : va_W := [(q_this, eO 6 [.ref q_text, .int c_length, .ref q_kinds, .ref q_places, .ref q_values, .int c_size]), (q_kinds, eI G 4001 c_kinds), (q_places, eI G 4001 c_places), (q_values, eJ G 4001 c_values)]
theorem mY_X7_begin : vY yX7_begin cX7_begin 4 (none) 2 := ⟨W2_195, W1_3, ⟨by decide +kernel, by decide +kernel⟩, by decide +kernel⟩
theorem mI_X7_begin : vYi yX7_begin := ⟨W2_194, (tb_in (tb_s (q := (yX7_begin, 6)) (by decide +kernel)) rfl)⟩
def f_X7_begin_79 (x1 : Int32) (y1 : Int32) (c_size : Int32) (c_kinds : Nat → Int32) (c_places : Nat → Int32) (c_values : Nat → Int64) : Option (Int32 × (Nat → Int32) × (Nat → Int32) × (Nat → Int64)) := (f_X7_put y1 x1 (0 : Int64) c_size c_kinds c_places c_values).bind fun r1 => some (r1.1, r1.2.1, r1.2.2.1, r1.2.2.2)
set_option maxHeartbeats 4000000 in
set_option maxRecDepth 100000 in
theorem w_X7_begin_79 {G : Gx} {C : Cx} (hC : vH G C cX7_begin RX7 4 (none) { frames := 1, cells := 0, slots := 0, locals := 24 }) (q_this : Nat) (q_kinds : Nat) (q_places : Nat) (q_values : Nat) (q_text : Nat) (c_length : Int32) (R : Int32 × (Nat → Int32) × (Nat → Int32) × (Nat → Int64)) (hQ : vR G C 0 0 none (ws_X7_begin G q_this q_kinds q_places q_values q_text c_length R.1 R.2.1 R.2.2.1 R.2.2.2)) (x1 : Int32) (y1 : Int32) (c_size : Int32) (c_kinds : Nat → Int32) (c_places : Nat → Int32) (c_values : Nat → Int64) (hf : f_X7_begin_79 x1 y1 c_size c_kinds c_places c_values = some R) : vG G C 0 0 79 [(1, .int x1)] [.int y1, .ref q_this] (ws_X7_begin G q_this q_kinds q_places q_values q_text c_length c_size c_kinds c_places c_values) := by
  rw [f_X7_begin_79] at hf
  refine g_iload_n (pc := 79) 0 hC dX7_begin_79 rfl ?_
  refine g_lconst (pc := 80) (0 : Int64) hC dX7_begin_80 rfl ?_
  obtain ⟨r1, hr1, hf⟩ := bnd_s hf
  refine g_callVv (pc := 81) (st := []) (wc2 := (ws_X7_put G q_this q_kinds q_places q_values q_text c_length r1.1 r1.2.1 r1.2.2.1 r1.2.2.2)) (ws2 := (ws_X7_begin G q_this q_kinds q_places q_values q_text c_length r1.1 r1.2.1 r1.2.2.1 r1.2.2.2)) [0, 1, 2, 3] 0 hC (c_X7_put G q_this q_kinds q_places q_values q_text c_length c_size c_kinds c_places c_values y1 x1 (0 : Int64) r1 hr1) mY_X7_put mI_X7_put W2_196 dX7_begin_81 rfl rfl rfl rfl rfl rfl rfl rfl rfl ⟨Nat.le_of_ble_eq_true rfl, Nat.le_of_ble_eq_true rfl⟩ ⟨Nat.le_refl 0, Nat.le_refl 0⟩ (Nat.le_of_ble_eq_true rfl) ?_
  obtain rfl := Option.some.inj hf
  exact g_vret (pc := 84) hC hQ dX7_begin_84
def f_X7_begin_68 (x1 : Int32) (x2 : Int32) (y0 : Int32) (c_size : Int32) (c_kinds : Nat → Int32) (c_places : Nat → Int32) (c_values : Nat → Int64) : Option (Int32 × (Nat → Int32) × (Nat → Int32) × (Nat → Int64)) := if y0 = 0 then ((f_X7_begin_79 x1 (4 : Int32) c_size c_kinds c_places c_values)) else ((f_X7_begin_79 x1 x2 c_size c_kinds c_places c_values))
set_option maxHeartbeats 4000000 in
set_option maxRecDepth 100000 in
theorem w_X7_begin_68 {G : Gx} {C : Cx} (hC : vH G C cX7_begin RX7 4 (none) { frames := 1, cells := 0, slots := 0, locals := 24 }) (q_this : Nat) (q_kinds : Nat) (q_places : Nat) (q_values : Nat) (q_text : Nat) (c_length : Int32) (R : Int32 × (Nat → Int32) × (Nat → Int32) × (Nat → Int64)) (hQ : vR G C 0 0 none (ws_X7_begin G q_this q_kinds q_places q_values q_text c_length R.1 R.2.1 R.2.2.1 R.2.2.2)) (x1 : Int32) (x2 : Int32) (y0 : Int32) (c_size : Int32) (c_kinds : Nat → Int32) (c_places : Nat → Int32) (c_values : Nat → Int64) (hf : f_X7_begin_68 x1 x2 y0 c_size c_kinds c_places c_values = some R) : vG G C 0 0 68 [(0, .ref q_this), (1, .int x1), (2, .int x2)] [.int y0] (ws_X7_begin G q_this q_kinds q_places q_values q_text c_length c_size c_kinds c_places c_values) := by
  rw [f_X7_begin_68] at hf
  refine g_istore_n (pc := 68) [(3, .int y0), (0, .ref q_this), (1, .int x1), (2, .int x2)] hC dX7_begin_68 (Nat.le_of_ble_eq_true rfl) rfl ?_
  refine g_aload_n (pc := 69) 1 hC dX7_begin_69 rfl ?_
  refine g_iload_n (pc := 70) 0 hC dX7_begin_70 rfl ?_
  refine g_if_eq (pc := 71) 78 hC dX7_begin_71 (by decide) (fun hb => ?_) (fun hb => ?_)
  · replace hf := ite_t hf hb
    refine g_iconst (pc := 78) (4 : Int32) hC dX7_begin_78 rfl ?_
    refine g_sub (lv2 := [(1, .int x1)]) [2] rfl ?_
    exact w_X7_begin_79 hC q_this q_kinds q_places q_values q_text c_length R hQ x1 (4 : Int32) c_size c_kinds c_places c_values hf
  · replace hf := ite_f hf hb
    refine g_iload_n (pc := 74) 3 hC dX7_begin_74 rfl ?_
    refine g_goto (pc := 75) 79 hC dX7_begin_75 (by decide) ?_
    refine g_sub (lv2 := [(1, .int x1)]) [2] rfl ?_
    exact w_X7_begin_79 hC q_this q_kinds q_places q_values q_text c_length R hQ x1 x2 c_size c_kinds c_places c_values hf
def f_X7_begin_63 (x1 : Int32) (x2 : Int32) (c_size : Int32) (c_kinds : Nat → Int32) (c_places : Nat → Int32) (c_values : Nat → Int64) : Option (Int32 × (Nat → Int32) × (Nat → Int32) × (Nat → Int64)) := (f_X7_begin_68 x1 x2 (1 : Int32) c_size c_kinds c_places c_values)
set_option maxHeartbeats 4000000 in
set_option maxRecDepth 100000 in
theorem w_X7_begin_63 {G : Gx} {C : Cx} (hC : vH G C cX7_begin RX7 4 (none) { frames := 1, cells := 0, slots := 0, locals := 24 }) (q_this : Nat) (q_kinds : Nat) (q_places : Nat) (q_values : Nat) (q_text : Nat) (c_length : Int32) (R : Int32 × (Nat → Int32) × (Nat → Int32) × (Nat → Int64)) (hQ : vR G C 0 0 none (ws_X7_begin G q_this q_kinds q_places q_values q_text c_length R.1 R.2.1 R.2.2.1 R.2.2.2)) (x1 : Int32) (x2 : Int32) (c_size : Int32) (c_kinds : Nat → Int32) (c_places : Nat → Int32) (c_values : Nat → Int64) (hf : f_X7_begin_63 x1 x2 c_size c_kinds c_places c_values = some R) : vG G C 0 0 63 [(0, .ref q_this), (1, .int x1), (2, .int x2)] [] (ws_X7_begin G q_this q_kinds q_places q_values q_text c_length c_size c_kinds c_places c_values) := by
  rw [f_X7_begin_63] at hf
  refine g_iconst (pc := 63) (1 : Int32) hC dX7_begin_63 rfl ?_
  refine g_goto (pc := 64) 68 hC dX7_begin_64 (by decide) ?_
  exact w_X7_begin_68 hC q_this q_kinds q_places q_values q_text c_length R hQ x1 x2 (1 : Int32) c_size c_kinds c_places c_values hf
def f_X7_begin (x1 : Int32) (x2 : Int32) (c_size : Int32) (c_kinds : Nat → Int32) (c_places : Nat → Int32) (c_values : Nat → Int64) : Option (Int32 × (Nat → Int32) × (Nat → Int32) × (Nat → Int64)) := (f_X7_isLetter x2).bind fun r1 => if r1 = 0 then ((f_X7_isDigit x2).bind fun r2 => if r2 = 0 then (if x2 = (46 : Int32) then ((f_X7_begin_63 x1 x2 c_size c_kinds c_places c_values)) else (if x2 = (59 : Int32) then ((f_X7_begin_63 x1 x2 c_size c_kinds c_places c_values)) else (if x2 = (43 : Int32) then ((f_X7_begin_63 x1 x2 c_size c_kinds c_places c_values)) else (if x2 = (45 : Int32) then ((f_X7_begin_63 x1 x2 c_size c_kinds c_places c_values)) else ((f_X7_begin_68 x1 x2 (0 : Int32) c_size c_kinds c_places c_values)))))) else ((f_X7_put (2 : Int32) x1 (x2 - (48 : Int32)).toInt64 c_size c_kinds c_places c_values).bind fun r3 => some (r3.1, r3.2.1, r3.2.2.1, r3.2.2.2))) else ((f_X7_put (1 : Int32) x1 x2.toInt64 c_size c_kinds c_places c_values).bind fun r4 => some (r4.1, r4.2.1, r4.2.2.1, r4.2.2.2))
set_option maxHeartbeats 4000000 in
set_option maxRecDepth 100000 in
theorem c_X7_begin (G : Gx) (q_this : Nat) (q_kinds : Nat) (q_places : Nat) (q_values : Nat) (q_text : Nat) (c_length : Int32) (c_size : Int32) (c_kinds : Nat → Int32) (c_places : Nat → Int32) (c_values : Nat → Int64) (x1 : Int32) (x2 : Int32) (R : Int32 × (Nat → Int32) × (Nat → Int32) × (Nat → Int64)) (hf : f_X7_begin x1 x2 c_size c_kinds c_places c_values = some R) : vM G yX7_begin cX7_begin 4 (none) 1 24 [.ref q_this, .int x1, .int x2] (ws_X7_begin G q_this q_kinds q_places q_values q_text c_length c_size c_kinds c_places c_values) none (ws_X7_begin G q_this q_kinds q_places q_values q_text c_length R.1 R.2.1 R.2.2.1 R.2.2.2) := by
  refine vM_of (by decide +kernel) (Nat.le_of_ble_eq_true rfl) [(0, .ref q_this), (1, .int x1), (2, .int x2)] rfl (fun C hC hQ => ?_)
  have hC : vH G C cX7_begin RX7 4 (none) { frames := 1, cells := 0, slots := 0, locals := 24 } := hC
  rw [f_X7_begin] at hf
  refine g_iload_n (pc := 0) 2 hC dX7_begin_0 rfl ?_
  obtain ⟨r1, hr1, hf⟩ := bnd_s hf
  refine g_callSi (pc := 1) (st := []) (wc2 := (ws_X7_isLetter G)) (ws2 := (ws_X7_begin G q_this q_kinds q_places q_values q_text c_length c_size c_kinds c_places c_values)) [] hC (c_X7_isLetter G x2 r1 hr1) mY_X7_isLetter W2_181 W2_180 dX7_begin_1 rfl rfl rfl rfl rfl rfl ⟨Nat.le_of_ble_eq_true rfl, Nat.le_of_ble_eq_true rfl⟩ ⟨Nat.le_refl 0, Nat.le_refl 0⟩ (Nat.le_of_ble_eq_true rfl) ?_
  refine g_if_eq (pc := 4) 18 hC dX7_begin_4 (by decide) (fun hb => ?_) (fun hb => ?_)
  · replace hf := ite_t hf hb
    refine g_iload_n (pc := 18) 2 hC dX7_begin_18 rfl ?_
    obtain ⟨r2, hr2, hf⟩ := bnd_s hf
    refine g_callSi (pc := 19) (st := []) (wc2 := (ws_X7_isDigit G)) (ws2 := (ws_X7_begin G q_this q_kinds q_places q_values q_text c_length c_size c_kinds c_places c_values)) [] hC (c_X7_isDigit G x2 r2 hr2) mY_X7_isDigit W2_178 W2_177 dX7_begin_19 rfl rfl rfl rfl rfl rfl ⟨Nat.le_of_ble_eq_true rfl, Nat.le_of_ble_eq_true rfl⟩ ⟨Nat.le_refl 0, Nat.le_refl 0⟩ (Nat.le_of_ble_eq_true rfl) ?_
    refine g_if_eq (pc := 22) 39 hC dX7_begin_22 (by decide) (fun hb => ?_) (fun hb => ?_)
    · replace hf := ite_t hf hb
      refine g_iload_n (pc := 39) 2 hC dX7_begin_39 rfl ?_
      refine g_bipush (pc := 40) (46 : Int32) hC dX7_begin_40 rfl ?_
      refine g_icmp_eq (pc := 42) 63 hC dX7_begin_42 (by decide) (fun hb => ?_) (fun hb => ?_)
      · replace hf := ite_t hf hb
        exact w_X7_begin_63 hC q_this q_kinds q_places q_values q_text c_length R hQ x1 x2 c_size c_kinds c_places c_values hf
      · replace hf := ite_f hf hb
        refine g_iload_n (pc := 45) 2 hC dX7_begin_45 rfl ?_
        refine g_bipush (pc := 46) (59 : Int32) hC dX7_begin_46 rfl ?_
        refine g_icmp_eq (pc := 48) 63 hC dX7_begin_48 (by decide) (fun hb => ?_) (fun hb => ?_)
        · replace hf := ite_t hf hb
          exact w_X7_begin_63 hC q_this q_kinds q_places q_values q_text c_length R hQ x1 x2 c_size c_kinds c_places c_values hf
        · replace hf := ite_f hf hb
          refine g_iload_n (pc := 51) 2 hC dX7_begin_51 rfl ?_
          refine g_bipush (pc := 52) (43 : Int32) hC dX7_begin_52 rfl ?_
          refine g_icmp_eq (pc := 54) 63 hC dX7_begin_54 (by decide) (fun hb => ?_) (fun hb => ?_)
          · replace hf := ite_t hf hb
            exact w_X7_begin_63 hC q_this q_kinds q_places q_values q_text c_length R hQ x1 x2 c_size c_kinds c_places c_values hf
          · replace hf := ite_f hf hb
            refine g_iload_n (pc := 57) 2 hC dX7_begin_57 rfl ?_
            refine g_bipush (pc := 58) (45 : Int32) hC dX7_begin_58 rfl ?_
            refine g_icmp_ne (pc := 60) 67 hC dX7_begin_60 (by decide) (fun hb => ?_) (fun hb => ?_)
            · replace hf := ite_f hf hb
              refine g_iconst (pc := 67) (0 : Int32) hC dX7_begin_67 rfl ?_
              exact w_X7_begin_68 hC q_this q_kinds q_places q_values q_text c_length R hQ x1 x2 (0 : Int32) c_size c_kinds c_places c_values hf
            · replace hf := ite_t hf hb
              exact w_X7_begin_63 hC q_this q_kinds q_places q_values q_text c_length R hQ x1 x2 c_size c_kinds c_places c_values hf
    · replace hf := ite_f hf hb
      refine g_aload_n (pc := 25) 0 hC dX7_begin_25 rfl ?_
      refine g_iconst (pc := 26) (2 : Int32) hC dX7_begin_26 rfl ?_
      refine g_iload_n (pc := 27) 1 hC dX7_begin_27 rfl ?_
      refine g_iload_n (pc := 28) 2 hC dX7_begin_28 rfl ?_
      refine g_bipush (pc := 29) (48 : Int32) hC dX7_begin_29 rfl ?_
      refine g_isub (pc := 31) hC dX7_begin_31 ?_
      refine g_i2l (pc := 32) hC dX7_begin_32 ?_
      obtain ⟨r3, hr3, hf⟩ := bnd_s hf
      refine g_callVv (pc := 33) (st := []) (wc2 := (ws_X7_put G q_this q_kinds q_places q_values q_text c_length r3.1 r3.2.1 r3.2.2.1 r3.2.2.2)) (ws2 := (ws_X7_begin G q_this q_kinds q_places q_values q_text c_length r3.1 r3.2.1 r3.2.2.1 r3.2.2.2)) [0, 1, 2, 3] 0 hC (c_X7_put G q_this q_kinds q_places q_values q_text c_length c_size c_kinds c_places c_values (2 : Int32) x1 (x2 - (48 : Int32)).toInt64 r3 hr3) mY_X7_put mI_X7_put W2_196 dX7_begin_33 rfl rfl rfl rfl rfl rfl rfl rfl rfl ⟨Nat.le_of_ble_eq_true rfl, Nat.le_of_ble_eq_true rfl⟩ ⟨Nat.le_refl 0, Nat.le_refl 0⟩ (Nat.le_of_ble_eq_true rfl) ?_
      refine g_goto (pc := 36) 84 hC dX7_begin_36 (by decide) ?_
      obtain rfl := Option.some.inj hf
      exact g_vret (pc := 84) hC hQ dX7_begin_84
  · replace hf := ite_f hf hb
    refine g_aload_n (pc := 7) 0 hC dX7_begin_7 rfl ?_
    refine g_iconst (pc := 8) (1 : Int32) hC dX7_begin_8 rfl ?_
    refine g_iload_n (pc := 9) 1 hC dX7_begin_9 rfl ?_
    refine g_iload_n (pc := 10) 2 hC dX7_begin_10 rfl ?_
    refine g_i2l (pc := 11) hC dX7_begin_11 ?_
    obtain ⟨r4, hr4, hf⟩ := bnd_s hf
    refine g_callVv (pc := 12) (st := []) (wc2 := (ws_X7_put G q_this q_kinds q_places q_values q_text c_length r4.1 r4.2.1 r4.2.2.1 r4.2.2.2)) (ws2 := (ws_X7_begin G q_this q_kinds q_places q_values q_text c_length r4.1 r4.2.1 r4.2.2.1 r4.2.2.2)) [0, 1, 2, 3] 0 hC (c_X7_put G q_this q_kinds q_places q_values q_text c_length c_size c_kinds c_places c_values (1 : Int32) x1 x2.toInt64 r4 hr4) mY_X7_put mI_X7_put W2_196 dX7_begin_12 rfl rfl rfl rfl rfl rfl rfl rfl rfl ⟨Nat.le_of_ble_eq_true rfl, Nat.le_of_ble_eq_true rfl⟩ ⟨Nat.le_refl 0, Nat.le_refl 0⟩ (Nat.le_of_ble_eq_true rfl) ?_
    refine g_goto (pc := 15) 84 hC dX7_begin_15 (by decide) ?_
    obtain rfl := Option.some.inj hf
    exact g_vret (pc := 84) hC hQ dX7_begin_84
/-! CoilBench$Tokens.packed(Ljava/lang/String;)J -/
abbrev ws_X7_packed (G : Gx)  : va_W := []
theorem mY_X7_packed : vY yX7_packed cX7_packed 4 (some .long) 1 := ⟨W2_206, W1_3, ⟨by decide +kernel, by decide +kernel⟩, by decide +kernel⟩
def f_X7_packed_4 (j0 : Nat) : Nat → (Int64) → (Int32) → Option (Int64)
  | 0, _, _ => none
  | n + 1, x1, x3 => if (nI (sLe.getD j0 0)) ≤ x3 then (some x1) else (if bad x3 (sLe.getD j0 0) = true then none else vlet (((xlshl x1 (8 : Int32)) ||| (sCh j0 x3).toInt64)) fun t2 => vlet (x3 + (1 : Int32)) fun t3 => (f_X7_packed_4 j0 n t2 t3))
set_option maxHeartbeats 4000000 in
set_option maxRecDepth 100000 in
theorem w_X7_packed_4 {G : Gx} {C : Cx} (hC : vH G C cX7_packed RX7 4 (some .long) { frames := 4, cells := 0, slots := 0, locals := 85 }) (j0 : Nat) (hj0 : j0 < 22) (R : Int64) (hQ : vR G C 0 0 (some (.long R)) (ws_X7_packed G)) : ∀ (n : Nat) (x1 : Int64) (x3 : Int32), f_X7_packed_4 j0 n x1 x3 = some R → vG G C 0 0 4 [(0, .ref (sK G j0)), (1, .long x1), (3, .int x3)] [] (ws_X7_packed G) := by
  intro n
  induction n with
  | zero => intro x1 x3 hf; rw [f_X7_packed_4] at hf; cases hf
  | succ n ih =>
    intro x1 x3 hf
    rw [f_X7_packed_4] at hf
    refine g_iload_n (pc := 4) 2 hC dX7_packed_4 rfl ?_
    refine g_aload_n (pc := 5) 0 hC dX7_packed_5 rfl ?_
    refine g_callTi (pc := 6) (st := [.int x3]) (wc2 := []) (ws2 := (ws_X7_packed G)) [] hj0 hC (c_J0_length_8abf5 G j0 hj0) mY_J0_length_8abf5 mI_J0_length_8abf5 W2_207 dX7_packed_6 rfl rfl rfl rfl rfl rfl rfl ⟨Nat.le_of_ble_eq_true rfl, Nat.le_of_ble_eq_true rfl⟩ ⟨Nat.le_refl 0, Nat.le_refl 0⟩ (Nat.le_of_ble_eq_true rfl) ?_
    refine g_icmp_ge (pc := 9) 30 hC dX7_packed_9 (by decide) (fun hb => ?_) (fun hb => ?_)
    · replace hf := ite_t hf hb
      refine g_lload_n (pc := 30) 1 hC dX7_packed_30 rfl ?_
      obtain rfl := Option.some.inj hf
      exact g_lret (pc := 31) hC hQ dX7_packed_31
    · replace hf := ite_f hf hb
      refine g_lload_n (pc := 12) 1 hC dX7_packed_12 rfl ?_
      refine g_bipush (pc := 13) (8 : Int32) hC dX7_packed_13 rfl ?_
      refine g_lshl (pc := 15) hC dX7_packed_15 ?_
      refine g_aload_n (pc := 16) 0 hC dX7_packed_16 rfl ?_
      refine g_iload_n (pc := 17) 2 hC dX7_packed_17 rfl ?_
      obtain ⟨h1, hf⟩ := bad_s hf
      refine g_callTi (pc := 18) (st := [.long (xlshl x1 (8 : Int32))]) (wc2 := []) (ws2 := (ws_X7_packed G)) [] hj0 hC (c_J0_charAt_5068e G j0 hj0 x3 h1) mY_J0_charAt_5068e mI_J0_charAt_5068e W2_217 dX7_packed_18 rfl rfl rfl rfl rfl rfl rfl ⟨Nat.le_of_ble_eq_true rfl, Nat.le_of_ble_eq_true rfl⟩ ⟨Nat.le_refl 0, Nat.le_refl 0⟩ (Nat.le_of_ble_eq_true rfl) ?_
      refine g_i2l (pc := 21) hC dX7_packed_21 ?_
      refine g_lor (pc := 22) hC dX7_packed_22 ?_
      obtain ⟨t2, et2, hf⟩ := vlet_s hf
      refine g_nml et2 ?_
      refine g_lstore_n (pc := 23) [(1, .long t2), (0, .ref (sK G j0)), (3, .int x3)] hC dX7_packed_23 (Nat.le_of_ble_eq_true rfl) rfl ?_
      obtain ⟨t3, et3, hf⟩ := vlet_s hf
      refine g_iinc (pc := 24) 2 [(3, .int t3), (1, .long t2), (0, .ref (sK G j0))] hC dX7_packed_24 rfl (by rw [et3]; rfl) (Nat.le_of_ble_eq_true rfl) rfl ?_
      refine g_goto (pc := 27) 4 hC dX7_packed_27 (by decide) ?_
      refine g_sub (lv2 := [(0, .ref (sK G j0)), (1, .long t2), (3, .int t3)]) [2, 1, 0] rfl ?_
      exact ih t2 t3 hf
def f_X7_packed (j0 : Nat) : Option (Int64) := (f_X7_packed_4 j0 FU (0 : Int64) (0 : Int32))
set_option maxHeartbeats 4000000 in
set_option maxRecDepth 100000 in
theorem c_X7_packed (G : Gx)  (j0 : Nat) (hj0 : j0 < 22) (R : Int64) (hf : f_X7_packed j0 = some R) : vM G yX7_packed cX7_packed 4 (some .long) 4 85 [.ref (sK G j0)] (ws_X7_packed G) (some (.long R)) (ws_X7_packed G) := by
  refine vM_of (by decide +kernel) (Nat.le_of_ble_eq_true rfl) [(0, .ref (sK G j0))] rfl (fun C hC hQ => ?_)
  have hC : vH G C cX7_packed RX7 4 (some .long) { frames := 4, cells := 0, slots := 0, locals := 85 } := hC
  rw [f_X7_packed] at hf
  refine g_lconst (pc := 0) (0 : Int64) hC dX7_packed_0 rfl ?_
  refine g_lstore_n (pc := 1) [(1, .long (0 : Int64)), (0, .ref (sK G j0))] hC dX7_packed_1 (Nat.le_of_ble_eq_true rfl) rfl ?_
  refine g_iconst (pc := 2) (0 : Int32) hC dX7_packed_2 rfl ?_
  refine g_istore_n (pc := 3) [(3, .int (0 : Int32)), (1, .long (0 : Int64)), (0, .ref (sK G j0))] hC dX7_packed_3 (Nat.le_of_ble_eq_true rfl) rfl ?_
  refine g_sub (lv2 := [(0, .ref (sK G j0)), (1, .long (0 : Int64)), (3, .int (0 : Int32))]) [2, 1, 0] rfl ?_
  exact w_X7_packed_4 hC j0 hj0 R hQ FU (0 : Int64) (0 : Int32) hf
/-! CoilBench$Tokens.kindOfWord(J)I -/
abbrev ws_X7_kindOfWord (G : Gx)  : va_W := []
theorem mY_X7_kindOfWord : vY yX7_kindOfWord cX7_kindOfWord 2 (some .int) 1 := ⟨W2_202, W1_3, ⟨by decide +kernel, by decide +kernel⟩, by decide +kernel⟩
def f_X7_kindOfWord (x0 : Int64) : Option (Int32) := (f_X7_packed 0).bind fun r1 => if (lg_cmp x0 r1) = 0 then (some (15 : Int32)) else ((f_X7_packed 1).bind fun r2 => if (lg_cmp x0 r2) = 0 then (some (18 : Int32)) else ((f_X7_packed 2).bind fun r3 => if (lg_cmp x0 r3) = 0 then (some (19 : Int32)) else ((f_X7_packed 3).bind fun r4 => if (lg_cmp x0 r4) = 0 then (some (10 : Int32)) else ((f_X7_packed 4).bind fun r5 => if (lg_cmp x0 r5) = 0 then (some (16 : Int32)) else ((f_X7_packed 5).bind fun r6 => if (lg_cmp x0 r6) = 0 then (some (17 : Int32)) else ((f_X7_packed 6).bind fun r7 => if (lg_cmp x0 r7) = 0 then (some (11 : Int32)) else ((f_X7_packed 7).bind fun r8 => if (lg_cmp x0 r8) = 0 then (some (12 : Int32)) else ((f_X7_packed 8).bind fun r9 => if (lg_cmp x0 r9) = 0 then (some (13 : Int32)) else ((f_X7_packed 9).bind fun r10 => if (lg_cmp x0 r10) = 0 then (some (14 : Int32)) else (some (1 : Int32)))))))))))
set_option maxHeartbeats 4000000 in
set_option maxRecDepth 100000 in
theorem c_X7_kindOfWord (G : Gx)  (x0 : Int64) (R : Int32) (hf : f_X7_kindOfWord x0 = some R) : vM G yX7_kindOfWord cX7_kindOfWord 2 (some .int) 5 108 [.long x0] (ws_X7_kindOfWord G) (some (.int R)) (ws_X7_kindOfWord G) := by
  refine vM_of (by decide +kernel) (Nat.le_of_ble_eq_true rfl) [(0, .long x0)] rfl (fun C hC hQ => ?_)
  have hC : vH G C cX7_kindOfWord RX7 2 (some .int) { frames := 5, cells := 0, slots := 0, locals := 108 } := hC
  rw [f_X7_kindOfWord] at hf
  refine g_lload_n (pc := 0) 0 hC dX7_kindOfWord_0 rfl ?_
  refine g_ldcS (pc := 1) (j := 0) hC dX7_kindOfWord_1 rfl ?_
  obtain ⟨r1, hr1, hf⟩ := bnd_s hf
  refine g_callSi (pc := 3) (st := [.long x0]) (wc2 := (ws_X7_packed G)) (ws2 := (ws_X7_kindOfWord G)) [] hC (c_X7_packed G 0 (Nat.le_of_ble_eq_true rfl) r1 hr1) mY_X7_packed W2_205 W2_204 dX7_kindOfWord_3 rfl rfl rfl rfl rfl rfl ⟨Nat.le_of_ble_eq_true rfl, Nat.le_of_ble_eq_true rfl⟩ ⟨Nat.le_refl 0, Nat.le_refl 0⟩ (Nat.le_of_ble_eq_true rfl) ?_
  refine g_lcmp (pc := 6) hC dX7_kindOfWord_6 ?_
  refine g_if_ne (pc := 7) 13 hC dX7_kindOfWord_7 (by decide) (fun hb => ?_) (fun hb => ?_)
  · replace hf := ite_f hf hb
    refine g_lload_n (pc := 13) 0 hC dX7_kindOfWord_13 rfl ?_
    refine g_ldcS (pc := 14) (j := 1) hC dX7_kindOfWord_14 rfl ?_
    obtain ⟨r2, hr2, hf⟩ := bnd_s hf
    refine g_callSi (pc := 16) (st := [.long x0]) (wc2 := (ws_X7_packed G)) (ws2 := (ws_X7_kindOfWord G)) [] hC (c_X7_packed G 1 (Nat.le_of_ble_eq_true rfl) r2 hr2) mY_X7_packed W2_205 W2_204 dX7_kindOfWord_16 rfl rfl rfl rfl rfl rfl ⟨Nat.le_of_ble_eq_true rfl, Nat.le_of_ble_eq_true rfl⟩ ⟨Nat.le_refl 0, Nat.le_refl 0⟩ (Nat.le_of_ble_eq_true rfl) ?_
    refine g_lcmp (pc := 19) hC dX7_kindOfWord_19 ?_
    refine g_if_ne (pc := 20) 26 hC dX7_kindOfWord_20 (by decide) (fun hb => ?_) (fun hb => ?_)
    · replace hf := ite_f hf hb
      refine g_lload_n (pc := 26) 0 hC dX7_kindOfWord_26 rfl ?_
      refine g_ldcS (pc := 27) (j := 2) hC dX7_kindOfWord_27 rfl ?_
      obtain ⟨r3, hr3, hf⟩ := bnd_s hf
      refine g_callSi (pc := 29) (st := [.long x0]) (wc2 := (ws_X7_packed G)) (ws2 := (ws_X7_kindOfWord G)) [] hC (c_X7_packed G 2 (Nat.le_of_ble_eq_true rfl) r3 hr3) mY_X7_packed W2_205 W2_204 dX7_kindOfWord_29 rfl rfl rfl rfl rfl rfl ⟨Nat.le_of_ble_eq_true rfl, Nat.le_of_ble_eq_true rfl⟩ ⟨Nat.le_refl 0, Nat.le_refl 0⟩ (Nat.le_of_ble_eq_true rfl) ?_
      refine g_lcmp (pc := 32) hC dX7_kindOfWord_32 ?_
      refine g_if_ne (pc := 33) 39 hC dX7_kindOfWord_33 (by decide) (fun hb => ?_) (fun hb => ?_)
      · replace hf := ite_f hf hb
        refine g_lload_n (pc := 39) 0 hC dX7_kindOfWord_39 rfl ?_
        refine g_ldcS (pc := 40) (j := 3) hC dX7_kindOfWord_40 rfl ?_
        obtain ⟨r4, hr4, hf⟩ := bnd_s hf
        refine g_callSi (pc := 42) (st := [.long x0]) (wc2 := (ws_X7_packed G)) (ws2 := (ws_X7_kindOfWord G)) [] hC (c_X7_packed G 3 (Nat.le_of_ble_eq_true rfl) r4 hr4) mY_X7_packed W2_205 W2_204 dX7_kindOfWord_42 rfl rfl rfl rfl rfl rfl ⟨Nat.le_of_ble_eq_true rfl, Nat.le_of_ble_eq_true rfl⟩ ⟨Nat.le_refl 0, Nat.le_refl 0⟩ (Nat.le_of_ble_eq_true rfl) ?_
        refine g_lcmp (pc := 45) hC dX7_kindOfWord_45 ?_
        refine g_if_ne (pc := 46) 52 hC dX7_kindOfWord_46 (by decide) (fun hb => ?_) (fun hb => ?_)
        · replace hf := ite_f hf hb
          refine g_lload_n (pc := 52) 0 hC dX7_kindOfWord_52 rfl ?_
          refine g_ldcS (pc := 53) (j := 4) hC dX7_kindOfWord_53 rfl ?_
          obtain ⟨r5, hr5, hf⟩ := bnd_s hf
          refine g_callSi (pc := 55) (st := [.long x0]) (wc2 := (ws_X7_packed G)) (ws2 := (ws_X7_kindOfWord G)) [] hC (c_X7_packed G 4 (Nat.le_of_ble_eq_true rfl) r5 hr5) mY_X7_packed W2_205 W2_204 dX7_kindOfWord_55 rfl rfl rfl rfl rfl rfl ⟨Nat.le_of_ble_eq_true rfl, Nat.le_of_ble_eq_true rfl⟩ ⟨Nat.le_refl 0, Nat.le_refl 0⟩ (Nat.le_of_ble_eq_true rfl) ?_
          refine g_lcmp (pc := 58) hC dX7_kindOfWord_58 ?_
          refine g_if_ne (pc := 59) 65 hC dX7_kindOfWord_59 (by decide) (fun hb => ?_) (fun hb => ?_)
          · replace hf := ite_f hf hb
            refine g_lload_n (pc := 65) 0 hC dX7_kindOfWord_65 rfl ?_
            refine g_ldcS (pc := 66) (j := 5) hC dX7_kindOfWord_66 rfl ?_
            obtain ⟨r6, hr6, hf⟩ := bnd_s hf
            refine g_callSi (pc := 68) (st := [.long x0]) (wc2 := (ws_X7_packed G)) (ws2 := (ws_X7_kindOfWord G)) [] hC (c_X7_packed G 5 (Nat.le_of_ble_eq_true rfl) r6 hr6) mY_X7_packed W2_205 W2_204 dX7_kindOfWord_68 rfl rfl rfl rfl rfl rfl ⟨Nat.le_of_ble_eq_true rfl, Nat.le_of_ble_eq_true rfl⟩ ⟨Nat.le_refl 0, Nat.le_refl 0⟩ (Nat.le_of_ble_eq_true rfl) ?_
            refine g_lcmp (pc := 71) hC dX7_kindOfWord_71 ?_
            refine g_if_ne (pc := 72) 78 hC dX7_kindOfWord_72 (by decide) (fun hb => ?_) (fun hb => ?_)
            · replace hf := ite_f hf hb
              refine g_lload_n (pc := 78) 0 hC dX7_kindOfWord_78 rfl ?_
              refine g_ldcS (pc := 79) (j := 6) hC dX7_kindOfWord_79 rfl ?_
              obtain ⟨r7, hr7, hf⟩ := bnd_s hf
              refine g_callSi (pc := 81) (st := [.long x0]) (wc2 := (ws_X7_packed G)) (ws2 := (ws_X7_kindOfWord G)) [] hC (c_X7_packed G 6 (Nat.le_of_ble_eq_true rfl) r7 hr7) mY_X7_packed W2_205 W2_204 dX7_kindOfWord_81 rfl rfl rfl rfl rfl rfl ⟨Nat.le_of_ble_eq_true rfl, Nat.le_of_ble_eq_true rfl⟩ ⟨Nat.le_refl 0, Nat.le_refl 0⟩ (Nat.le_of_ble_eq_true rfl) ?_
              refine g_lcmp (pc := 84) hC dX7_kindOfWord_84 ?_
              refine g_if_ne (pc := 85) 91 hC dX7_kindOfWord_85 (by decide) (fun hb => ?_) (fun hb => ?_)
              · replace hf := ite_f hf hb
                refine g_lload_n (pc := 91) 0 hC dX7_kindOfWord_91 rfl ?_
                refine g_ldcS (pc := 92) (j := 7) hC dX7_kindOfWord_92 rfl ?_
                obtain ⟨r8, hr8, hf⟩ := bnd_s hf
                refine g_callSi (pc := 94) (st := [.long x0]) (wc2 := (ws_X7_packed G)) (ws2 := (ws_X7_kindOfWord G)) [] hC (c_X7_packed G 7 (Nat.le_of_ble_eq_true rfl) r8 hr8) mY_X7_packed W2_205 W2_204 dX7_kindOfWord_94 rfl rfl rfl rfl rfl rfl ⟨Nat.le_of_ble_eq_true rfl, Nat.le_of_ble_eq_true rfl⟩ ⟨Nat.le_refl 0, Nat.le_refl 0⟩ (Nat.le_of_ble_eq_true rfl) ?_
                refine g_lcmp (pc := 97) hC dX7_kindOfWord_97 ?_
                refine g_if_ne (pc := 98) 104 hC dX7_kindOfWord_98 (by decide) (fun hb => ?_) (fun hb => ?_)
                · replace hf := ite_f hf hb
                  refine g_lload_n (pc := 104) 0 hC dX7_kindOfWord_104 rfl ?_
                  refine g_ldcS (pc := 105) (j := 8) hC dX7_kindOfWord_105 rfl ?_
                  obtain ⟨r9, hr9, hf⟩ := bnd_s hf
                  refine g_callSi (pc := 107) (st := [.long x0]) (wc2 := (ws_X7_packed G)) (ws2 := (ws_X7_kindOfWord G)) [] hC (c_X7_packed G 8 (Nat.le_of_ble_eq_true rfl) r9 hr9) mY_X7_packed W2_205 W2_204 dX7_kindOfWord_107 rfl rfl rfl rfl rfl rfl ⟨Nat.le_of_ble_eq_true rfl, Nat.le_of_ble_eq_true rfl⟩ ⟨Nat.le_refl 0, Nat.le_refl 0⟩ (Nat.le_of_ble_eq_true rfl) ?_
                  refine g_lcmp (pc := 110) hC dX7_kindOfWord_110 ?_
                  refine g_if_ne (pc := 111) 117 hC dX7_kindOfWord_111 (by decide) (fun hb => ?_) (fun hb => ?_)
                  · replace hf := ite_f hf hb
                    refine g_lload_n (pc := 117) 0 hC dX7_kindOfWord_117 rfl ?_
                    refine g_ldcS (pc := 118) (j := 9) hC dX7_kindOfWord_118 rfl ?_
                    obtain ⟨r10, hr10, hf⟩ := bnd_s hf
                    refine g_callSi (pc := 120) (st := [.long x0]) (wc2 := (ws_X7_packed G)) (ws2 := (ws_X7_kindOfWord G)) [] hC (c_X7_packed G 9 (Nat.le_of_ble_eq_true rfl) r10 hr10) mY_X7_packed W2_205 W2_204 dX7_kindOfWord_120 rfl rfl rfl rfl rfl rfl ⟨Nat.le_of_ble_eq_true rfl, Nat.le_of_ble_eq_true rfl⟩ ⟨Nat.le_refl 0, Nat.le_refl 0⟩ (Nat.le_of_ble_eq_true rfl) ?_
                    refine g_lcmp (pc := 123) hC dX7_kindOfWord_123 ?_
                    refine g_if_ne (pc := 124) 132 hC dX7_kindOfWord_124 (by decide) (fun hb => ?_) (fun hb => ?_)
                    · replace hf := ite_f hf hb
                      refine g_iconst (pc := 132) (1 : Int32) hC dX7_kindOfWord_132 rfl ?_
                      obtain rfl := Option.some.inj hf
                      exact g_iret (pc := 133) hC hQ dX7_kindOfWord_133
                    · replace hf := ite_t hf hb
                      refine g_bipush (pc := 127) (14 : Int32) hC dX7_kindOfWord_127 rfl ?_
                      refine g_goto (pc := 129) 133 hC dX7_kindOfWord_129 (by decide) ?_
                      obtain rfl := Option.some.inj hf
                      exact g_iret (pc := 133) hC hQ dX7_kindOfWord_133
                  · replace hf := ite_t hf hb
                    refine g_bipush (pc := 114) (13 : Int32) hC dX7_kindOfWord_114 rfl ?_
                    obtain rfl := Option.some.inj hf
                    exact g_iret (pc := 116) hC hQ dX7_kindOfWord_116
                · replace hf := ite_t hf hb
                  refine g_bipush (pc := 101) (12 : Int32) hC dX7_kindOfWord_101 rfl ?_
                  obtain rfl := Option.some.inj hf
                  exact g_iret (pc := 103) hC hQ dX7_kindOfWord_103
              · replace hf := ite_t hf hb
                refine g_bipush (pc := 88) (11 : Int32) hC dX7_kindOfWord_88 rfl ?_
                obtain rfl := Option.some.inj hf
                exact g_iret (pc := 90) hC hQ dX7_kindOfWord_90
            · replace hf := ite_t hf hb
              refine g_bipush (pc := 75) (17 : Int32) hC dX7_kindOfWord_75 rfl ?_
              obtain rfl := Option.some.inj hf
              exact g_iret (pc := 77) hC hQ dX7_kindOfWord_77
          · replace hf := ite_t hf hb
            refine g_bipush (pc := 62) (16 : Int32) hC dX7_kindOfWord_62 rfl ?_
            obtain rfl := Option.some.inj hf
            exact g_iret (pc := 64) hC hQ dX7_kindOfWord_64
        · replace hf := ite_t hf hb
          refine g_bipush (pc := 49) (10 : Int32) hC dX7_kindOfWord_49 rfl ?_
          obtain rfl := Option.some.inj hf
          exact g_iret (pc := 51) hC hQ dX7_kindOfWord_51
      · replace hf := ite_t hf hb
        refine g_bipush (pc := 36) (19 : Int32) hC dX7_kindOfWord_36 rfl ?_
        obtain rfl := Option.some.inj hf
        exact g_iret (pc := 38) hC hQ dX7_kindOfWord_38
    · replace hf := ite_t hf hb
      refine g_bipush (pc := 23) (18 : Int32) hC dX7_kindOfWord_23 rfl ?_
      obtain rfl := Option.some.inj hf
      exact g_iret (pc := 25) hC hQ dX7_kindOfWord_25
  · replace hf := ite_t hf hb
    refine g_bipush (pc := 10) (15 : Int32) hC dX7_kindOfWord_10 rfl ?_
    obtain rfl := Option.some.inj hf
    exact g_iret (pc := 12) hC hQ dX7_kindOfWord_12
/-! CoilBench$Tokens.split()V -/
abbrev ws_X7_split (G : Gx) (q_this : Nat) (q_text : Nat) (q_kinds : Nat) (q_places : Nat) (q_values : Nat) (c_length : Int32) (c_size : Int32) (c_text : Nat → Int32) (c_kinds : Nat → Int32) (c_places : Nat → Int32) (c_values : Nat → Int64) : va_W := [(q_this, eO 6 [.ref q_text, .int c_length, .ref q_kinds, .ref q_places, .ref q_values, .int c_size]), (q_text, eB G 4000 c_text), (q_kinds, eI G 4001 c_kinds), (q_places, eI G 4001 c_places), (q_values, eJ G 4001 c_values)]
theorem mY_X7_split : vY yX7_split cX7_split 4 (none) 0 := ⟨W2_172, W1_3, ⟨by decide +kernel, by decide +kernel⟩, by decide +kernel⟩
theorem mI_X7_split : vYi yX7_split := ⟨W2_170, W2_171⟩
def f_X7_split_77 (k9 : Int32 → Int32 → Int32 → (Nat → Int32) → (Nat → Int32) → (Nat → Int64) → Option (Int32 × (Nat → Int32) × (Nat → Int32) × (Nat → Int64))) (c_length : Int32) (c_text : Nat → Int32) (x2 : Int32) (y0 : Int32) (c_size : Int32) (c_kinds : Nat → Int32) (c_places : Nat → Int32) (c_values : Nat → Int64) : Option (Int32 × (Nat → Int32) × (Nat → Int32) × (Nat → Int64)) := vlet (x2 + (1 : Int32)) fun t1 => (k9 y0 t1 c_size c_kinds c_places c_values)
set_option maxHeartbeats 4000000 in
set_option maxRecDepth 100000 in
theorem w_X7_split_77 {G : Gx} {C : Cx} (hC : vH G C cX7_split RX7 4 (none) { frames := 6, cells := 0, slots := 0, locals := 129 }) (q_this : Nat) (q_text : Nat) (q_kinds : Nat) (q_places : Nat) (q_values : Nat) (c_length : Int32) (c_text : Nat → Int32) (R : Int32 × (Nat → Int32) × (Nat → Int32) × (Nat → Int64)) (hQ : vR G C 0 0 none (ws_X7_split G q_this q_text q_kinds q_places q_values c_length R.1 c_text R.2.1 R.2.2.1 R.2.2.2)) (k9 : Int32 → Int32 → Int32 → (Nat → Int32) → (Nat → Int32) → (Nat → Int64) → Option (Int32 × (Nat → Int32) × (Nat → Int32) × (Nat → Int64))) (hk9 : ∀ (x1 : Int32) (x2 : Int32) (c_size : Int32) (c_kinds : Nat → Int32) (c_places : Nat → Int32) (c_values : Nat → Int64), k9 x1 x2 c_size c_kinds c_places c_values = some R → vG G C 0 0 9 [(0, .ref q_this), (1, .int x1), (2, .int x2)] [] (ws_X7_split G q_this q_text q_kinds q_places q_values c_length c_size c_text c_kinds c_places c_values)) (x2 : Int32) (y0 : Int32) (c_size : Int32) (c_kinds : Nat → Int32) (c_places : Nat → Int32) (c_values : Nat → Int64) (hf : f_X7_split_77 k9 c_length c_text x2 y0 c_size c_kinds c_places c_values = some R) : vG G C 0 0 77 [(0, .ref q_this), (2, .int x2)] [.int y0] (ws_X7_split G q_this q_text q_kinds q_places q_values c_length c_size c_text c_kinds c_places c_values) := by
  rw [f_X7_split_77] at hf
  refine g_istore_n (pc := 77) [(1, .int y0), (0, .ref q_this), (2, .int x2)] hC dX7_split_77 (Nat.le_of_ble_eq_true rfl) rfl ?_
  obtain ⟨t1, et1, hf⟩ := vlet_s hf
  refine g_iinc (pc := 78) 2 [(2, .int t1), (1, .int y0), (0, .ref q_this)] hC dX7_split_78 rfl (by rw [et1]; rfl) (Nat.le_of_ble_eq_true rfl) rfl ?_
  refine g_goto (pc := 81) 9 hC dX7_split_81 (by decide) ?_
  refine g_sub (lv2 := [(0, .ref q_this), (1, .int y0), (2, .int t1)]) [2, 1, 0] rfl ?_
  exact hk9 y0 t1 c_size c_kinds c_places c_values hf
def f_X7_split_72 (k9 : Int32 → Int32 → Int32 → (Nat → Int32) → (Nat → Int32) → (Nat → Int64) → Option (Int32 × (Nat → Int32) × (Nat → Int32) × (Nat → Int64))) (c_length : Int32) (c_text : Nat → Int32) (x2 : Int32) (c_size : Int32) (c_kinds : Nat → Int32) (c_places : Nat → Int32) (c_values : Nat → Int64) : Option (Int32 × (Nat → Int32) × (Nat → Int32) × (Nat → Int64)) := (f_X7_split_77 k9 c_length c_text x2 (1 : Int32) c_size c_kinds c_places c_values)
set_option maxHeartbeats 4000000 in
set_option maxRecDepth 100000 in
theorem w_X7_split_72 {G : Gx} {C : Cx} (hC : vH G C cX7_split RX7 4 (none) { frames := 6, cells := 0, slots := 0, locals := 129 }) (q_this : Nat) (q_text : Nat) (q_kinds : Nat) (q_places : Nat) (q_values : Nat) (c_length : Int32) (c_text : Nat → Int32) (R : Int32 × (Nat → Int32) × (Nat → Int32) × (Nat → Int64)) (hQ : vR G C 0 0 none (ws_X7_split G q_this q_text q_kinds q_places q_values c_length R.1 c_text R.2.1 R.2.2.1 R.2.2.2)) (k9 : Int32 → Int32 → Int32 → (Nat → Int32) → (Nat → Int32) → (Nat → Int64) → Option (Int32 × (Nat → Int32) × (Nat → Int32) × (Nat → Int64))) (hk9 : ∀ (x1 : Int32) (x2 : Int32) (c_size : Int32) (c_kinds : Nat → Int32) (c_places : Nat → Int32) (c_values : Nat → Int64), k9 x1 x2 c_size c_kinds c_places c_values = some R → vG G C 0 0 9 [(0, .ref q_this), (1, .int x1), (2, .int x2)] [] (ws_X7_split G q_this q_text q_kinds q_places q_values c_length c_size c_text c_kinds c_places c_values)) (x2 : Int32) (c_size : Int32) (c_kinds : Nat → Int32) (c_places : Nat → Int32) (c_values : Nat → Int64) (hf : f_X7_split_72 k9 c_length c_text x2 c_size c_kinds c_places c_values = some R) : vG G C 0 0 72 [(0, .ref q_this), (2, .int x2)] [] (ws_X7_split G q_this q_text q_kinds q_places q_values c_length c_size c_text c_kinds c_places c_values) := by
  rw [f_X7_split_72] at hf
  refine g_iconst (pc := 72) (1 : Int32) hC dX7_split_72 rfl ?_
  refine g_goto (pc := 73) 77 hC dX7_split_73 (by decide) ?_
  exact w_X7_split_77 hC q_this q_text q_kinds q_places q_values c_length c_text R hQ k9 hk9 x2 (1 : Int32) c_size c_kinds c_places c_values hf
def f_X7_split_58 (k9 : Int32 → Int32 → Int32 → (Nat → Int32) → (Nat → Int32) → (Nat → Int64) → Option (Int32 × (Nat → Int32) × (Nat → Int32) × (Nat → Int64))) (c_length : Int32) (c_text : Nat → Int32) (x2 : Int32) (x3 : Int32) (c_size : Int32) (c_kinds : Nat → Int32) (c_places : Nat → Int32) (c_values : Nat → Int64) : Option (Int32 × (Nat → Int32) × (Nat → Int32) × (Nat → Int64)) := (f_X7_isLetter x3).bind fun r1 => if r1 = 0 then ((f_X7_isDigit x3).bind fun r2 => if r2 = 0 then ((f_X7_split_77 k9 c_length c_text x2 (0 : Int32) c_size c_kinds c_places c_values)) else ((f_X7_split_72 k9 c_length c_text x2 c_size c_kinds c_places c_values))) else ((f_X7_split_72 k9 c_length c_text x2 c_size c_kinds c_places c_values))
set_option maxHeartbeats 4000000 in
set_option maxRecDepth 100000 in
theorem w_X7_split_58 {G : Gx} {C : Cx} (hC : vH G C cX7_split RX7 4 (none) { frames := 6, cells := 0, slots := 0, locals := 129 }) (q_this : Nat) (q_text : Nat) (q_kinds : Nat) (q_places : Nat) (q_values : Nat) (c_length : Int32) (c_text : Nat → Int32) (R : Int32 × (Nat → Int32) × (Nat → Int32) × (Nat → Int64)) (hQ : vR G C 0 0 none (ws_X7_split G q_this q_text q_kinds q_places q_values c_length R.1 c_text R.2.1 R.2.2.1 R.2.2.2)) (k9 : Int32 → Int32 → Int32 → (Nat → Int32) → (Nat → Int32) → (Nat → Int64) → Option (Int32 × (Nat → Int32) × (Nat → Int32) × (Nat → Int64))) (hk9 : ∀ (x1 : Int32) (x2 : Int32) (c_size : Int32) (c_kinds : Nat → Int32) (c_places : Nat → Int32) (c_values : Nat → Int64), k9 x1 x2 c_size c_kinds c_places c_values = some R → vG G C 0 0 9 [(0, .ref q_this), (1, .int x1), (2, .int x2)] [] (ws_X7_split G q_this q_text q_kinds q_places q_values c_length c_size c_text c_kinds c_places c_values)) (x2 : Int32) (x3 : Int32) (c_size : Int32) (c_kinds : Nat → Int32) (c_places : Nat → Int32) (c_values : Nat → Int64) (hf : f_X7_split_58 k9 c_length c_text x2 x3 c_size c_kinds c_places c_values = some R) : vG G C 0 0 58 [(0, .ref q_this), (2, .int x2), (3, .int x3)] [] (ws_X7_split G q_this q_text q_kinds q_places q_values c_length c_size c_text c_kinds c_places c_values) := by
  rw [f_X7_split_58] at hf
  refine g_iload_n (pc := 58) 2 hC dX7_split_58 rfl ?_
  obtain ⟨r1, hr1, hf⟩ := bnd_s hf
  refine g_callSi (pc := 59) (st := []) (wc2 := (ws_X7_isLetter G)) (ws2 := (ws_X7_split G q_this q_text q_kinds q_places q_values c_length c_size c_text c_kinds c_places c_values)) [] hC (c_X7_isLetter G x3 r1 hr1) mY_X7_isLetter W2_181 W2_180 dX7_split_59 rfl rfl rfl rfl rfl rfl ⟨Nat.le_of_ble_eq_true rfl, Nat.le_of_ble_eq_true rfl⟩ ⟨Nat.le_refl 0, Nat.le_refl 0⟩ (Nat.le_of_ble_eq_true rfl) ?_
  refine g_if_ne (pc := 62) 72 hC dX7_split_62 (by decide) (fun hb => ?_) (fun hb => ?_)
  · replace hf := ite_f hf hb
    refine g_sub (lv2 := [(0, .ref q_this), (2, .int x2)]) [0, 1] rfl ?_
    exact w_X7_split_72 hC q_this q_text q_kinds q_places q_values c_length c_text R hQ k9 hk9 x2 c_size c_kinds c_places c_values hf
  · replace hf := ite_t hf hb
    refine g_iload_n (pc := 65) 2 hC dX7_split_65 rfl ?_
    obtain ⟨r2, hr2, hf⟩ := bnd_s hf
    refine g_callSi (pc := 66) (st := []) (wc2 := (ws_X7_isDigit G)) (ws2 := (ws_X7_split G q_this q_text q_kinds q_places q_values c_length c_size c_text c_kinds c_places c_values)) [] hC (c_X7_isDigit G x3 r2 hr2) mY_X7_isDigit W2_178 W2_177 dX7_split_66 rfl rfl rfl rfl rfl rfl ⟨Nat.le_of_ble_eq_true rfl, Nat.le_of_ble_eq_true rfl⟩ ⟨Nat.le_refl 0, Nat.le_refl 0⟩ (Nat.le_of_ble_eq_true rfl) ?_
    refine g_if_eq (pc := 69) 76 hC dX7_split_69 (by decide) (fun hb => ?_) (fun hb => ?_)
    · replace hf := ite_t hf hb
      refine g_iconst (pc := 76) (0 : Int32) hC dX7_split_76 rfl ?_
      refine g_sub (lv2 := [(0, .ref q_this), (2, .int x2)]) [0, 1] rfl ?_
      exact w_X7_split_77 hC q_this q_text q_kinds q_places q_values c_length c_text R hQ k9 hk9 x2 (0 : Int32) c_size c_kinds c_places c_values hf
    · replace hf := ite_f hf hb
      refine g_sub (lv2 := [(0, .ref q_this), (2, .int x2)]) [0, 1] rfl ?_
      exact w_X7_split_72 hC q_this q_text q_kinds q_places q_values c_length c_text R hQ k9 hk9 x2 c_size c_kinds c_places c_values hf
def f_X7_split_45 (k9 : Int32 → Int32 → Int32 → (Nat → Int32) → (Nat → Int32) → (Nat → Int64) → Option (Int32 × (Nat → Int32) × (Nat → Int32) × (Nat → Int64))) (c_length : Int32) (c_text : Nat → Int32) (x2 : Int32) (x3 : Int32) (c_size : Int32) (c_kinds : Nat → Int32) (c_places : Nat → Int32) (c_values : Nat → Int64) : Option (Int32 × (Nat → Int32) × (Nat → Int32) × (Nat → Int64)) := (f_X7_isBlank x3).bind fun r1 => if r1 = 0 then ((f_X7_begin x2 x3 c_size c_kinds c_places c_values).bind fun r2 => (f_X7_split_58 k9 c_length c_text x2 x3 r2.1 r2.2.1 r2.2.2.1 r2.2.2.2)) else ((f_X7_split_58 k9 c_length c_text x2 x3 c_size c_kinds c_places c_values))
set_option maxHeartbeats 4000000 in
set_option maxRecDepth 100000 in
theorem w_X7_split_45 {G : Gx} {C : Cx} (hC : vH G C cX7_split RX7 4 (none) { frames := 6, cells := 0, slots := 0, locals := 129 }) (q_this : Nat) (q_text : Nat) (q_kinds : Nat) (q_places : Nat) (q_values : Nat) (c_length : Int32) (c_text : Nat → Int32) (R : Int32 × (Nat → Int32) × (Nat → Int32) × (Nat → Int64)) (hQ : vR G C 0 0 none (ws_X7_split G q_this q_text q_kinds q_places q_values c_length R.1 c_text R.2.1 R.2.2.1 R.2.2.2)) (k9 : Int32 → Int32 → Int32 → (Nat → Int32) → (Nat → Int32) → (Nat → Int64) → Option (Int32 × (Nat → Int32) × (Nat → Int32) × (Nat → Int64))) (hk9 : ∀ (x1 : Int32) (x2 : Int32) (c_size : Int32) (c_kinds : Nat → Int32) (c_places : Nat → Int32) (c_values : Nat → Int64), k9 x1 x2 c_size c_kinds c_places c_values = some R → vG G C 0 0 9 [(0, .ref q_this), (1, .int x1), (2, .int x2)] [] (ws_X7_split G q_this q_text q_kinds q_places q_values c_length c_size c_text c_kinds c_places c_values)) (x2 : Int32) (x3 : Int32) (c_size : Int32) (c_kinds : Nat → Int32) (c_places : Nat → Int32) (c_values : Nat → Int64) (hf : f_X7_split_45 k9 c_length c_text x2 x3 c_size c_kinds c_places c_values = some R) : vG G C 0 0 45 [(0, .ref q_this), (2, .int x2), (3, .int x3)] [] (ws_X7_split G q_this q_text q_kinds q_places q_values c_length c_size c_text c_kinds c_places c_values) := by
  rw [f_X7_split_45] at hf
  refine g_iload_n (pc := 45) 2 hC dX7_split_45 rfl ?_
  obtain ⟨r1, hr1, hf⟩ := bnd_s hf
  refine g_callSi (pc := 46) (st := []) (wc2 := (ws_X7_isBlank G)) (ws2 := (ws_X7_split G q_this q_text q_kinds q_places q_values c_length c_size c_text c_kinds c_places c_values)) [] hC (c_X7_isBlank G x3 r1 hr1) mY_X7_isBlank W2_190 W2_189 dX7_split_46 rfl rfl rfl rfl rfl rfl ⟨Nat.le_of_ble_eq_true rfl, Nat.le_of_ble_eq_true rfl⟩ ⟨Nat.le_refl 0, Nat.le_refl 0⟩ (Nat.le_of_ble_eq_true rfl) ?_
  refine g_if_ne (pc := 49) 58 hC dX7_split_49 (by decide) (fun hb => ?_) (fun hb => ?_)
  · replace hf := ite_f hf hb
    exact w_X7_split_58 hC q_this q_text q_kinds q_places q_values c_length c_text R hQ k9 hk9 x2 x3 c_size c_kinds c_places c_values hf
  · replace hf := ite_t hf hb
    refine g_aload_n (pc := 52) 0 hC dX7_split_52 rfl ?_
    refine g_iload_n (pc := 53) 1 hC dX7_split_53 rfl ?_
    refine g_iload_n (pc := 54) 2 hC dX7_split_54 rfl ?_
    obtain ⟨r2, hr2, hf⟩ := bnd_s hf
    refine g_callVv (pc := 55) (st := []) (wc2 := (ws_X7_begin G q_this q_kinds q_places q_values q_text c_length r2.1 r2.2.1 r2.2.2.1 r2.2.2.2)) (ws2 := (ws_X7_split G q_this q_text q_kinds q_places q_values c_length r2.1 c_text r2.2.1 r2.2.2.1 r2.2.2.2)) [0, 2, 3, 4] 0 hC (c_X7_begin G q_this q_kinds q_places q_values q_text c_length c_size c_kinds c_places c_values x2 x3 r2 hr2) mY_X7_begin mI_X7_begin W2_192 dX7_split_55 rfl rfl rfl rfl rfl rfl rfl rfl rfl ⟨Nat.le_of_ble_eq_true rfl, Nat.le_of_ble_eq_true rfl⟩ ⟨Nat.le_refl 0, Nat.le_refl 0⟩ (Nat.le_of_ble_eq_true rfl) ?_
    exact w_X7_split_58 hC q_this q_text q_kinds q_places q_values c_length c_text R hQ k9 hk9 x2 x3 r2.1 r2.2.1 r2.2.2.1 r2.2.2.2 hf
def f_X7_split_129 (k96 : Int32 → Int32 → (Nat → Int32) → (Nat → Int32) → (Nat → Int64) → Option (Int32 × (Nat → Int32) × (Nat → Int32) × (Nat → Int64))) (c_length : Int32) (c_text : Nat → Int32) (x2 : Int32) (c_size : Int32) (c_kinds : Nat → Int32) (c_places : Nat → Int32) (c_values : Nat → Int64) : Option (Int32 × (Nat → Int32) × (Nat → Int32) × (Nat → Int64)) := vlet (x2 + (1 : Int32)) fun t1 => (k96 t1 c_size c_kinds c_places c_values)
set_option maxHeartbeats 4000000 in
set_option maxRecDepth 100000 in
theorem w_X7_split_129 {G : Gx} {C : Cx} (hC : vH G C cX7_split RX7 4 (none) { frames := 6, cells := 0, slots := 0, locals := 129 }) (q_this : Nat) (q_text : Nat) (q_kinds : Nat) (q_places : Nat) (q_values : Nat) (c_length : Int32) (c_text : Nat → Int32) (R : Int32 × (Nat → Int32) × (Nat → Int32) × (Nat → Int64)) (hQ : vR G C 0 0 none (ws_X7_split G q_this q_text q_kinds q_places q_values c_length R.1 c_text R.2.1 R.2.2.1 R.2.2.2)) (k96 : Int32 → Int32 → (Nat → Int32) → (Nat → Int32) → (Nat → Int64) → Option (Int32 × (Nat → Int32) × (Nat → Int32) × (Nat → Int64))) (hk96 : ∀ (x2 : Int32) (c_size : Int32) (c_kinds : Nat → Int32) (c_places : Nat → Int32) (c_values : Nat → Int64), k96 x2 c_size c_kinds c_places c_values = some R → vG G C 0 0 96 [(0, .ref q_this), (2, .int x2)] [] (ws_X7_split G q_this q_text q_kinds q_places q_values c_length c_size c_text c_kinds c_places c_values)) (x2 : Int32) (c_size : Int32) (c_kinds : Nat → Int32) (c_places : Nat → Int32) (c_values : Nat → Int64) (hf : f_X7_split_129 k96 c_length c_text x2 c_size c_kinds c_places c_values = some R) : vG G C 0 0 129 [(0, .ref q_this), (2, .int x2)] [] (ws_X7_split G q_this q_text q_kinds q_places q_values c_length c_size c_text c_kinds c_places c_values) := by
  rw [f_X7_split_129] at hf
  obtain ⟨t1, et1, hf⟩ := vlet_s hf
  refine g_iinc (pc := 129) 1 [(2, .int t1), (0, .ref q_this)] hC dX7_split_129 rfl (by rw [et1]; rfl) (Nat.le_of_ble_eq_true rfl) rfl ?_
  refine g_goto (pc := 132) 96 hC dX7_split_132 (by decide) ?_
  refine g_sub (lv2 := [(0, .ref q_this), (2, .int t1)]) [1, 0] rfl ?_
  exact hk96 t1 c_size c_kinds c_places c_values hf
def f_X7_split_96 (c_length : Int32) (c_text : Nat → Int32) : Nat → (Int32) → (Int32) → (Nat → Int32) → (Nat → Int32) → (Nat → Int64) → Option (Int32 × (Nat → Int32) × (Nat → Int32) × (Nat → Int64))
  | 0, _, _, _, _, _ => none
  | n + 1, x2, c_size, c_kinds, c_places, c_values => if c_size ≤ x2 then (some (c_size, c_kinds, c_places, c_values)) else (if bad x2 4001 = true then none else if (c_kinds x2.toNatClampNeg) = (1 : Int32) then (if bad x2 4001 = true then none else (f_X7_kindOfWord (c_values x2.toNatClampNeg)).bind fun r3 => if bad x2 4001 = true then none else vlet (upd c_kinds x2.toNatClampNeg r3) fun w5 => (f_X7_split_129 (f_X7_split_96 c_length c_text n) c_length c_text x2 c_size w5 c_places c_values)) else ((f_X7_split_129 (f_X7_split_96 c_length c_text n) c_length c_text x2 c_size c_kinds c_places c_values)))
set_option maxHeartbeats 4000000 in
set_option maxRecDepth 100000 in
theorem w_X7_split_96 {G : Gx} {C : Cx} (hC : vH G C cX7_split RX7 4 (none) { frames := 6, cells := 0, slots := 0, locals := 129 }) (q_this : Nat) (q_text : Nat) (q_kinds : Nat) (q_places : Nat) (q_values : Nat) (c_length : Int32) (c_text : Nat → Int32) (R : Int32 × (Nat → Int32) × (Nat → Int32) × (Nat → Int64)) (hQ : vR G C 0 0 none (ws_X7_split G q_this q_text q_kinds q_places q_values c_length R.1 c_text R.2.1 R.2.2.1 R.2.2.2)) : ∀ (n : Nat) (x2 : Int32) (c_size : Int32) (c_kinds : Nat → Int32) (c_places : Nat → Int32) (c_values : Nat → Int64), f_X7_split_96 c_length c_text n x2 c_size c_kinds c_places c_values = some R → vG G C 0 0 96 [(0, .ref q_this), (2, .int x2)] [] (ws_X7_split G q_this q_text q_kinds q_places q_values c_length c_size c_text c_kinds c_places c_values) := by
  intro n
  induction n with
  | zero => intro x2 c_size c_kinds c_places c_values hf; rw [f_X7_split_96] at hf; cases hf
  | succ n ih =>
    intro x2 c_size c_kinds c_places c_values hf
    rw [f_X7_split_96] at hf
    refine g_iload_n (pc := 96) 1 hC dX7_split_96 rfl ?_
    refine g_aload_n (pc := 97) 0 hC dX7_split_97 rfl ?_
    refine g_get (pc := 98) 0 5 hC inX7 dX7_split_98 W1_48 rfl rfl (Nat.le_of_ble_eq_true rfl) rfl rfl ?_
    refine g_icmp_ge (pc := 101) 135 hC dX7_split_101 (by decide) (fun hb => ?_) (fun hb => ?_)
    · replace hf := ite_t hf hb
      obtain rfl := Option.some.inj hf
      exact g_vret (pc := 135) hC hQ dX7_split_135
    · replace hf := ite_f hf hb
      refine g_aload_n (pc := 104) 0 hC dX7_split_104 rfl ?_
      refine g_get (pc := 105) 0 2 hC inX7 dX7_split_105 W1_42 rfl rfl (Nat.le_of_ble_eq_true rfl) rfl rfl ?_
      refine g_iload_n (pc := 108) 1 hC dX7_split_108 rfl ?_
      obtain ⟨h1, hf⟩ := bad_s hf
      refine g_iald (pc := 109) 2 hC dX7_split_109 rfl h1 ?_
      refine g_iconst (pc := 110) (1 : Int32) hC dX7_split_110 rfl ?_
      refine g_icmp_ne (pc := 111) 129 hC dX7_split_111 (by decide) (fun hb => ?_) (fun hb => ?_)
      · replace hf := ite_f hf hb
        exact w_X7_split_129 hC q_this q_text q_kinds q_places q_values c_length c_text R hQ (f_X7_split_96 c_length c_text n) ih x2 c_size c_kinds c_places c_values hf
      · replace hf := ite_t hf hb
        refine g_aload_n (pc := 114) 0 hC dX7_split_114 rfl ?_
        refine g_get (pc := 115) 0 2 hC inX7 dX7_split_115 W1_42 rfl rfl (Nat.le_of_ble_eq_true rfl) rfl rfl ?_
        refine g_iload_n (pc := 118) 1 hC dX7_split_118 rfl ?_
        refine g_aload_n (pc := 119) 0 hC dX7_split_119 rfl ?_
        refine g_get (pc := 120) 0 4 hC inX7 dX7_split_120 W1_46 rfl rfl (Nat.le_of_ble_eq_true rfl) rfl rfl ?_
        refine g_iload_n (pc := 123) 1 hC dX7_split_123 rfl ?_
        obtain ⟨h2, hf⟩ := bad_s hf
        refine g_lald (pc := 124) 4 hC dX7_split_124 rfl h2 ?_
        obtain ⟨r3, hr3, hf⟩ := bnd_s hf
        refine g_callSi (pc := 125) (st := [.int x2, .ref q_kinds]) (wc2 := (ws_X7_kindOfWord G)) (ws2 := (ws_X7_split G q_this q_text q_kinds q_places q_values c_length c_size c_text c_kinds c_places c_values)) [] hC (c_X7_kindOfWord G (c_values x2.toNatClampNeg) r3 hr3) mY_X7_kindOfWord W2_201 W2_200 dX7_split_125 rfl rfl rfl rfl rfl rfl ⟨Nat.le_of_ble_eq_true rfl, Nat.le_of_ble_eq_true rfl⟩ ⟨Nat.le_refl 0, Nat.le_refl 0⟩ (Nat.le_of_ble_eq_true rfl) ?_
        obtain ⟨h4, hf⟩ := bad_s hf
        obtain ⟨w5, ew5, hf⟩ := vlet_s hf
        refine g_iast (pc := 128) (ws2 := (ws_X7_split G q_this q_text q_kinds q_places q_values c_length c_size c_text w5 c_places c_values)) 2 hC dX7_split_128 rfl h4 ew5 rfl ?_
        exact w_X7_split_129 hC q_this q_text q_kinds q_places q_values c_length c_text R hQ (f_X7_split_96 c_length c_text n) ih x2 c_size w5 c_places c_values hf
def f_X7_split_9 (c_length : Int32) (c_text : Nat → Int32) : Nat → (Int32) → (Int32) → (Int32) → (Nat → Int32) → (Nat → Int32) → (Nat → Int64) → Option (Int32 × (Nat → Int32) × (Nat → Int32) × (Nat → Int64))
  | 0, _, _, _, _, _, _ => none
  | n + 1, x1, x2, c_size, c_kinds, c_places, c_values => if c_length ≤ x2 then ((f_X7_put (3 : Int32) c_length (0 : Int64) c_size c_kinds c_places c_values).bind fun r1 => (f_X7_split_96 c_length c_text FU (0 : Int32) r1.1 r1.2.1 r1.2.2.1 r1.2.2.2)) else (if bad x2 4000 = true then none else vlet ((c_text x2.toNatClampNeg)) fun t3 => if x1 = 0 then ((f_X7_split_45 (f_X7_split_9 c_length c_text n) c_length c_text x2 t3 c_size c_kinds c_places c_values)) else ((f_X7_goesOn t3 c_size c_kinds).bind fun r4 => if r4 = 0 then ((f_X7_split_45 (f_X7_split_9 c_length c_text n) c_length c_text x2 t3 c_size c_kinds c_places c_values)) else ((f_X7_extend x2 t3 c_size c_kinds c_places c_values).bind fun r5 => (f_X7_split_58 (f_X7_split_9 c_length c_text n) c_length c_text x2 t3 c_size r5.1 c_places r5.2))))
set_option maxHeartbeats 4000000 in
set_option maxRecDepth 100000 in
theorem w_X7_split_9 {G : Gx} {C : Cx} (hC : vH G C cX7_split RX7 4 (none) { frames := 6, cells := 0, slots := 0, locals := 129 }) (q_this : Nat) (q_text : Nat) (q_kinds : Nat) (q_places : Nat) (q_values : Nat) (c_length : Int32) (c_text : Nat → Int32) (R : Int32 × (Nat → Int32) × (Nat → Int32) × (Nat → Int64)) (hQ : vR G C 0 0 none (ws_X7_split G q_this q_text q_kinds q_places q_values c_length R.1 c_text R.2.1 R.2.2.1 R.2.2.2)) : ∀ (n : Nat) (x1 : Int32) (x2 : Int32) (c_size : Int32) (c_kinds : Nat → Int32) (c_places : Nat → Int32) (c_values : Nat → Int64), f_X7_split_9 c_length c_text n x1 x2 c_size c_kinds c_places c_values = some R → vG G C 0 0 9 [(0, .ref q_this), (1, .int x1), (2, .int x2)] [] (ws_X7_split G q_this q_text q_kinds q_places q_values c_length c_size c_text c_kinds c_places c_values) := by
  intro n
  induction n with
  | zero => intro x1 x2 c_size c_kinds c_places c_values hf; rw [f_X7_split_9] at hf; cases hf
  | succ n ih =>
    intro x1 x2 c_size c_kinds c_places c_values hf
    rw [f_X7_split_9] at hf
    refine g_iload_n (pc := 9) 2 hC dX7_split_9 rfl ?_
    refine g_aload_n (pc := 10) 0 hC dX7_split_10 rfl ?_
    refine g_get (pc := 11) 0 1 hC inX7 dX7_split_11 W1_41 rfl rfl (Nat.le_of_ble_eq_true rfl) rfl rfl ?_
    refine g_icmp_ge (pc := 14) 84 hC dX7_split_14 (by decide) (fun hb => ?_) (fun hb => ?_)
    · replace hf := ite_t hf hb
      refine g_aload_n (pc := 84) 0 hC dX7_split_84 rfl ?_
      refine g_iconst (pc := 85) (3 : Int32) hC dX7_split_85 rfl ?_
      refine g_aload_n (pc := 86) 0 hC dX7_split_86 rfl ?_
      refine g_get (pc := 87) 0 1 hC inX7 dX7_split_87 W1_41 rfl rfl (Nat.le_of_ble_eq_true rfl) rfl rfl ?_
      refine g_lconst (pc := 90) (0 : Int64) hC dX7_split_90 rfl ?_
      obtain ⟨r1, hr1, hf⟩ := bnd_s hf
      refine g_callVv (pc := 91) (st := []) (wc2 := (ws_X7_put G q_this q_kinds q_places q_values q_text c_length r1.1 r1.2.1 r1.2.2.1 r1.2.2.2)) (ws2 := (ws_X7_split G q_this q_text q_kinds q_places q_values c_length r1.1 c_text r1.2.1 r1.2.2.1 r1.2.2.2)) [0, 2, 3, 4] 0 hC (c_X7_put G q_this q_kinds q_places q_values q_text c_length c_size c_kinds c_places c_values (3 : Int32) c_length (0 : Int64) r1 hr1) mY_X7_put mI_X7_put W2_196 dX7_split_91 rfl rfl rfl rfl rfl rfl rfl rfl rfl ⟨Nat.le_of_ble_eq_true rfl, Nat.le_of_ble_eq_true rfl⟩ ⟨Nat.le_refl 0, Nat.le_refl 0⟩ (Nat.le_of_ble_eq_true rfl) ?_
      refine g_iconst (pc := 94) (0 : Int32) hC dX7_split_94 rfl ?_
      refine g_istore_n (pc := 95) [(2, .int (0 : Int32)), (0, .ref q_this), (1, .int x1)] hC dX7_split_95 (Nat.le_of_ble_eq_true rfl) rfl ?_
      refine g_sub (lv2 := [(0, .ref q_this), (2, .int (0 : Int32))]) [1, 0] rfl ?_
      exact w_X7_split_96 hC q_this q_text q_kinds q_places q_values c_length c_text R hQ FU (0 : Int32) r1.1 r1.2.1 r1.2.2.1 r1.2.2.2 hf
    · replace hf := ite_f hf hb
      refine g_aload_n (pc := 17) 0 hC dX7_split_17 rfl ?_
      refine g_get (pc := 18) 0 0 hC inX7 dX7_split_18 W1_40 rfl rfl (Nat.le_of_ble_eq_true rfl) rfl rfl ?_
      refine g_iload_n (pc := 21) 2 hC dX7_split_21 rfl ?_
      obtain ⟨h2, hf⟩ := bad_s hf
      refine g_bald (pc := 22) 1 hC dX7_split_22 rfl h2 ?_
      obtain ⟨t3, et3, hf⟩ := vlet_s hf
      refine g_nmi et3 ?_
      refine g_istore_n (pc := 23) [(3, .int t3), (0, .ref q_this), (1, .int x1), (2, .int x2)] hC dX7_split_23 (Nat.le_of_ble_eq_true rfl) rfl ?_
      refine g_iload_n (pc := 24) 2 hC dX7_split_24 rfl ?_
      refine g_if_eq (pc := 25) 45 hC dX7_split_25 (by decide) (fun hb => ?_) (fun hb => ?_)
      · replace hf := ite_t hf hb
        refine g_sub (lv2 := [(0, .ref q_this), (2, .int x2), (3, .int t3)]) [1, 3, 0] rfl ?_
        exact w_X7_split_45 hC q_this q_text q_kinds q_places q_values c_length c_text R hQ (f_X7_split_9 c_length c_text n) ih x2 t3 c_size c_kinds c_places c_values hf
      · replace hf := ite_f hf hb
        refine g_aload_n (pc := 28) 1 hC dX7_split_28 rfl ?_
        refine g_iload_n (pc := 29) 0 hC dX7_split_29 rfl ?_
        obtain ⟨r4, hr4, hf⟩ := bnd_s hf
        refine g_callVi (pc := 30) (st := []) (wc2 := (ws_X7_goesOn G q_this q_kinds q_text q_places q_values c_length c_size c_kinds)) (ws2 := (ws_X7_split G q_this q_text q_kinds q_places q_values c_length c_size c_text c_kinds c_places c_values)) [0, 2] 0 hC (c_X7_goesOn G q_this q_kinds q_text q_places q_values c_length c_size c_kinds t3 r4 hr4) mY_X7_goesOn mI_X7_goesOn W2_173 dX7_split_30 rfl rfl rfl rfl rfl rfl rfl rfl rfl ⟨Nat.le_of_ble_eq_true rfl, Nat.le_of_ble_eq_true rfl⟩ ⟨Nat.le_refl 0, Nat.le_refl 0⟩ (Nat.le_of_ble_eq_true rfl) ?_
        refine g_if_eq (pc := 33) 45 hC dX7_split_33 (by decide) (fun hb => ?_) (fun hb => ?_)
        · replace hf := ite_t hf hb
          refine g_sub (lv2 := [(0, .ref q_this), (2, .int x2), (3, .int t3)]) [1, 3, 0] rfl ?_
          exact w_X7_split_45 hC q_this q_text q_kinds q_places q_values c_length c_text R hQ (f_X7_split_9 c_length c_text n) ih x2 t3 c_size c_kinds c_places c_values hf
        · replace hf := ite_f hf hb
          refine g_aload_n (pc := 36) 1 hC dX7_split_36 rfl ?_
          refine g_iload_n (pc := 37) 3 hC dX7_split_37 rfl ?_
          refine g_iload_n (pc := 38) 0 hC dX7_split_38 rfl ?_
          obtain ⟨r5, hr5, hf⟩ := bnd_s hf
          refine g_callVv (pc := 39) (st := []) (wc2 := (ws_X7_extend G q_this q_kinds q_places q_values q_text c_length c_size r5.1 c_places r5.2)) (ws2 := (ws_X7_split G q_this q_text q_kinds q_places q_values c_length c_size c_text r5.1 c_places r5.2)) [0, 2, 3, 4] 0 hC (c_X7_extend G q_this q_kinds q_places q_values q_text c_length c_size c_kinds c_places c_values x2 t3 r5 hr5) mY_X7_extend mI_X7_extend W2_183 dX7_split_39 rfl rfl rfl rfl rfl rfl rfl rfl rfl ⟨Nat.le_of_ble_eq_true rfl, Nat.le_of_ble_eq_true rfl⟩ ⟨Nat.le_refl 0, Nat.le_refl 0⟩ (Nat.le_of_ble_eq_true rfl) ?_
          refine g_goto (pc := 42) 58 hC dX7_split_42 (by decide) ?_
          refine g_sub (lv2 := [(0, .ref q_this), (2, .int x2), (3, .int t3)]) [1, 3, 0] rfl ?_
          exact w_X7_split_58 hC q_this q_text q_kinds q_places q_values c_length c_text R hQ (f_X7_split_9 c_length c_text n) ih x2 t3 c_size r5.1 c_places r5.2 hf
def f_X7_split (c_length : Int32) (c_size : Int32) (c_text : Nat → Int32) (c_kinds : Nat → Int32) (c_places : Nat → Int32) (c_values : Nat → Int64) : Option (Int32 × (Nat → Int32) × (Nat → Int32) × (Nat → Int64)) := (f_X7_split_9 c_length c_text FU (0 : Int32) (0 : Int32) (0 : Int32) c_kinds c_places c_values)
set_option maxHeartbeats 4000000 in
set_option maxRecDepth 100000 in
theorem c_X7_split (G : Gx) (q_this : Nat) (q_text : Nat) (q_kinds : Nat) (q_places : Nat) (q_values : Nat) (c_length : Int32) (c_size : Int32) (c_text : Nat → Int32) (c_kinds : Nat → Int32) (c_places : Nat → Int32) (c_values : Nat → Int64) (R : Int32 × (Nat → Int32) × (Nat → Int32) × (Nat → Int64)) (hf : f_X7_split c_length c_size c_text c_kinds c_places c_values = some R) : vM G yX7_split cX7_split 4 (none) 6 129 [.ref q_this] (ws_X7_split G q_this q_text q_kinds q_places q_values c_length c_size c_text c_kinds c_places c_values) none (ws_X7_split G q_this q_text q_kinds q_places q_values c_length R.1 c_text R.2.1 R.2.2.1 R.2.2.2) := by
  refine vM_of (by decide +kernel) (Nat.le_of_ble_eq_true rfl) [(0, .ref q_this)] rfl (fun C hC hQ => ?_)
  have hC : vH G C cX7_split RX7 4 (none) { frames := 6, cells := 0, slots := 0, locals := 129 } := hC
  rw [f_X7_split] at hf
  refine g_aload_n (pc := 0) 0 hC dX7_split_0 rfl ?_
  refine g_iconst (pc := 1) (0 : Int32) hC dX7_split_1 rfl ?_
  refine g_put (pc := 2) (ws2 := (ws_X7_split G q_this q_text q_kinds q_places q_values c_length (0 : Int32) c_text c_kinds c_places c_values)) 0 5 hC inX7 tyX7_ok nmX7 dX7_split_2 W1_48 rfl rfl (Nat.le_of_ble_eq_true rfl) rfl rfl rfl rfl rfl (Nat.le_of_ble_eq_true rfl) rfl ?_
  refine g_iconst (pc := 5) (0 : Int32) hC dX7_split_5 rfl ?_
  refine g_istore_n (pc := 6) [(1, .int (0 : Int32)), (0, .ref q_this)] hC dX7_split_6 (Nat.le_of_ble_eq_true rfl) rfl ?_
  refine g_iconst (pc := 7) (0 : Int32) hC dX7_split_7 rfl ?_
  refine g_istore_n (pc := 8) [(2, .int (0 : Int32)), (1, .int (0 : Int32)), (0, .ref q_this)] hC dX7_split_8 (Nat.le_of_ble_eq_true rfl) rfl ?_
  refine g_sub (lv2 := [(0, .ref q_this), (1, .int (0 : Int32)), (2, .int (0 : Int32))]) [2, 1, 0] rfl ?_
  exact w_X7_split_9 hC q_this q_text q_kinds q_places q_values c_length c_text R hQ FU (0 : Int32) (0 : Int32) (0 : Int32) c_kinds c_places c_values hf
/-! CoilBench$History.clear()V -/
abbrev ws_X1_clear (G : Gx) (q_this : Nat) (q_kept : Nat) (c_next : Int32) (c_size : Int32) : va_W := [(q_this, eO 0 [.ref q_kept, .int c_next, .int c_size])]
theorem mY_X1_clear : vY yX1_clear cX1_clear 1 (none) 0 := ⟨W3_131, W1_9, ⟨by decide +kernel, by decide +kernel⟩, by decide +kernel⟩
theorem mI_X1_clear : vYi yX1_clear := ⟨W3_129, W3_130⟩
def f_X1_clear (c_next : Int32) (c_size : Int32) : Option (Int32 × Int32) := some ((0 : Int32), (0 : Int32))
set_option maxHeartbeats 4000000 in
set_option maxRecDepth 100000 in
theorem c_X1_clear (G : Gx) (q_this : Nat) (q_kept : Nat) (c_next : Int32) (c_size : Int32) (R : Int32 × Int32) (hf : f_X1_clear c_next c_size = some R) : vM G yX1_clear cX1_clear 1 (none) 0 0 [.ref q_this] (ws_X1_clear G q_this q_kept c_next c_size) none (ws_X1_clear G q_this q_kept R.1 R.2) := by
  refine vM_of (by decide +kernel) (Nat.le_of_ble_eq_true rfl) [(0, .ref q_this)] rfl (fun C hC hQ => ?_)
  have hC : vH G C cX1_clear RX1 1 (none) { frames := 0, cells := 0, slots := 0, locals := 0 } := hC
  rw [f_X1_clear] at hf
  refine g_aload_n (pc := 0) 0 hC dX1_clear_0 rfl ?_
  refine g_iconst (pc := 1) (0 : Int32) hC dX1_clear_1 rfl ?_
  refine g_put (pc := 2) (ws2 := (ws_X1_clear G q_this q_kept (0 : Int32) c_size)) 0 1 hC inX1 tyX1_ok nmX1 dX1_clear_2 W2_77 rfl rfl (Nat.le_of_ble_eq_true rfl) rfl rfl rfl rfl rfl (Nat.le_of_ble_eq_true rfl) rfl ?_
  refine g_aload_n (pc := 5) 0 hC dX1_clear_5 rfl ?_
  refine g_iconst (pc := 6) (0 : Int32) hC dX1_clear_6 rfl ?_
  refine g_put (pc := 7) (ws2 := (ws_X1_clear G q_this q_kept (0 : Int32) (0 : Int32))) 0 2 hC inX1 tyX1_ok nmX1 dX1_clear_7 W2_78 rfl rfl (Nat.le_of_ble_eq_true rfl) rfl rfl rfl rfl rfl (Nat.le_of_ble_eq_true rfl) rfl ?_
  obtain rfl := Option.some.inj hf
  exact g_vret (pc := 10) hC hQ dX1_clear_10
/-! CoilBench$Races.clear()V -/
abbrev ws_X4_clear (G : Gx) (q_this : Nat) (q_main : Nat) (q_ahead : Nat) (q_trial : Nat) (c_due : Int64) (c_onTick : Int32) : va_W := [(q_this, eO 3 [.ref q_main, .ref q_ahead, .ref q_trial, .long c_due, .int c_onTick])]
theorem mY_X4_clear : vY yX4_clear cX4_clear 1 (none) 0 := ⟨W3_135, W1_10, ⟨by decide +kernel, by decide +kernel⟩, by decide +kernel⟩
theorem mI_X4_clear : vYi yX4_clear := ⟨W3_133, W3_134⟩
def f_X4_clear (c_onTick : Int32) : Option (Int32) := some (-1 : Int32)
set_option maxHeartbeats 4000000 in
set_option maxRecDepth 100000 in
theorem c_X4_clear (G : Gx) (q_this : Nat) (q_main : Nat) (q_ahead : Nat) (q_trial : Nat) (c_due : Int64) (c_onTick : Int32) (R : Int32) (hf : f_X4_clear c_onTick = some R) : vM G yX4_clear cX4_clear 1 (none) 0 0 [.ref q_this] (ws_X4_clear G q_this q_main q_ahead q_trial c_due c_onTick) none (ws_X4_clear G q_this q_main q_ahead q_trial c_due R) := by
  refine vM_of (by decide +kernel) (Nat.le_of_ble_eq_true rfl) [(0, .ref q_this)] rfl (fun C hC hQ => ?_)
  have hC : vH G C cX4_clear RX4 1 (none) { frames := 0, cells := 0, slots := 0, locals := 0 } := hC
  rw [f_X4_clear] at hf
  refine g_aload_n (pc := 0) 0 hC dX4_clear_0 rfl ?_
  refine g_iconst (pc := 1) (-1 : Int32) hC dX4_clear_1 rfl ?_
  refine g_put (pc := 2) (ws2 := (ws_X4_clear G q_this q_main q_ahead q_trial c_due (-1 : Int32))) 0 4 hC inX4 tyX4_ok nmX4 dX4_clear_2 W2_99 rfl rfl (Nat.le_of_ble_eq_true rfl) rfl rfl rfl rfl rfl (Nat.le_of_ble_eq_true rfl) rfl ?_
  obtain rfl := Option.some.inj hf
  exact g_vret (pc := 5) hC hQ dX4_clear_5
/-! CoilBench$Tokens.clear()V -/
abbrev ws_X7_clear (G : Gx) (q_this : Nat) (q_text : Nat) (q_kinds : Nat) (q_places : Nat) (q_values : Nat) (c_length : Int32) (c_size : Int32) : va_W := [(q_this, eO 6 [.ref q_text, .int c_length, .ref q_kinds, .ref q_places, .ref q_values, .int c_size])]
theorem mY_X7_clear : vY yX7_clear cX7_clear 1 (none) 0 := ⟨W3_146, W1_3, ⟨by decide +kernel, by decide +kernel⟩, by decide +kernel⟩
theorem mI_X7_clear : vYi yX7_clear := ⟨W3_144, W3_145⟩
def f_X7_clear (c_length : Int32) : Option (Int32) := some (0 : Int32)
set_option maxHeartbeats 4000000 in
set_option maxRecDepth 100000 in
theorem c_X7_clear (G : Gx) (q_this : Nat) (q_text : Nat) (q_kinds : Nat) (q_places : Nat) (q_values : Nat) (c_length : Int32) (c_size : Int32) (R : Int32) (hf : f_X7_clear c_length = some R) : vM G yX7_clear cX7_clear 1 (none) 0 0 [.ref q_this] (ws_X7_clear G q_this q_text q_kinds q_places q_values c_length c_size) none (ws_X7_clear G q_this q_text q_kinds q_places q_values R c_size) := by
  refine vM_of (by decide +kernel) (Nat.le_of_ble_eq_true rfl) [(0, .ref q_this)] rfl (fun C hC hQ => ?_)
  have hC : vH G C cX7_clear RX7 1 (none) { frames := 0, cells := 0, slots := 0, locals := 0 } := hC
  rw [f_X7_clear] at hf
  refine g_aload_n (pc := 0) 0 hC dX7_clear_0 rfl ?_
  refine g_iconst (pc := 1) (0 : Int32) hC dX7_clear_1 rfl ?_
  refine g_put (pc := 2) (ws2 := (ws_X7_clear G q_this q_text q_kinds q_places q_values (0 : Int32) c_size)) 0 1 hC inX7 tyX7_ok nmX7 dX7_clear_2 W1_41 rfl rfl (Nat.le_of_ble_eq_true rfl) rfl rfl rfl rfl rfl (Nat.le_of_ble_eq_true rfl) rfl ?_
  obtain rfl := Option.some.inj hf
  exact g_vret (pc := 5) hC hQ dX7_clear_5
/-! CoilBench$Tokens.append(C)V -/
abbrev ws_X7_append (G : Gx) (q_this : Nat) (q_text : Nat) (q_kinds : Nat) (q_places : Nat) (q_values : Nat) (c_length : Int32) (c_size : Int32) (c_text : Nat → Int32) : va_W := [(q_this, eO 6 [.ref q_text, .int c_length, .ref q_kinds, .ref q_places, .ref q_values, .int c_size]), (q_text, eB G 4000 c_text)]
theorem mY_X7_append : vY yX7_append cX7_append 2 (none) 1 := ⟨W3_156, W1_3, ⟨by decide +kernel, by decide +kernel⟩, by decide +kernel⟩
theorem mI_X7_append : vYi yX7_append := ⟨W3_154, W3_155⟩
def f_X7_append (x1 : Int32) (c_length : Int32) (c_text : Nat → Int32) : Option (Int32 × (Nat → Int32)) := if (4000 : Int32) ≤ c_length then (some (c_length, c_text)) else (vlet ((xi2b x1)) fun t1 => if bad c_length 4000 = true then none else vlet (upd c_text c_length.toNatClampNeg (vp_nar .byte t1)) fun w3 => vlet ((c_length + (1 : Int32))) fun t4 => some (t4, w3))
set_option maxHeartbeats 4000000 in
set_option maxRecDepth 100000 in
theorem c_X7_append (G : Gx) (q_this : Nat) (q_text : Nat) (q_kinds : Nat) (q_places : Nat) (q_values : Nat) (c_length : Int32) (c_size : Int32) (c_text : Nat → Int32) (x1 : Int32) (R : Int32 × (Nat → Int32)) (hf : f_X7_append x1 c_length c_text = some R) : vM G yX7_append cX7_append 2 (none) 0 0 [.ref q_this, .int x1] (ws_X7_append G q_this q_text q_kinds q_places q_values c_length c_size c_text) none (ws_X7_append G q_this q_text q_kinds q_places q_values R.1 c_size R.2) := by
  refine vM_of (by decide +kernel) (Nat.le_of_ble_eq_true rfl) [(0, .ref q_this), (1, .int x1)] rfl (fun C hC hQ => ?_)
  have hC : vH G C cX7_append RX7 2 (none) { frames := 0, cells := 0, slots := 0, locals := 0 } := hC
  rw [f_X7_append] at hf
  refine g_aload_n (pc := 0) 0 hC dX7_append_0 rfl ?_
  refine g_get (pc := 1) 0 1 hC inX7 dX7_append_1 W1_41 rfl rfl (Nat.le_of_ble_eq_true rfl) rfl rfl ?_
  refine g_sipush (pc := 4) (4000 : Int32) hC dX7_append_4 rfl ?_
  refine g_icmp_ge (pc := 7) 31 hC dX7_append_7 (by decide) (fun hb => ?_) (fun hb => ?_)
  · replace hf := ite_t hf hb
    obtain rfl := Option.some.inj hf
    exact g_vret (pc := 31) hC hQ dX7_append_31
  · replace hf := ite_f hf hb
    refine g_aload_n (pc := 10) 0 hC dX7_append_10 rfl ?_
    refine g_get (pc := 11) 0 0 hC inX7 dX7_append_11 W1_40 rfl rfl (Nat.le_of_ble_eq_true rfl) rfl rfl ?_
    refine g_aload_n (pc := 14) 0 hC dX7_append_14 rfl ?_
    refine g_get (pc := 15) 0 1 hC inX7 dX7_append_15 W1_41 rfl rfl (Nat.le_of_ble_eq_true rfl) rfl rfl ?_
    refine g_iload_n (pc := 18) 1 hC dX7_append_18 rfl ?_
    refine g_i2b (pc := 19) hC dX7_append_19 ?_
    obtain ⟨t1, et1, hf⟩ := vlet_s hf
    refine g_nmi et1 ?_
    obtain ⟨h2, hf⟩ := bad_s hf
    obtain ⟨w3, ew3, hf⟩ := vlet_s hf
    refine g_bast (pc := 20) (ws2 := (ws_X7_append G q_this q_text q_kinds q_places q_values c_length c_size w3)) 1 hC dX7_append_20 rfl h2 ew3 rfl ?_
    refine g_aload_n (pc := 21) 0 hC dX7_append_21 rfl ?_
    refine g_dup (pc := 22) rfl hC dX7_append_22 ?_
    refine g_get (pc := 23) 0 1 hC inX7 dX7_append_23 W1_41 rfl rfl (Nat.le_of_ble_eq_true rfl) rfl rfl ?_
    refine g_iconst (pc := 26) (1 : Int32) hC dX7_append_26 rfl ?_
    refine g_iadd (pc := 27) hC dX7_append_27 ?_
    obtain ⟨t4, et4, hf⟩ := vlet_s hf
    refine g_nmi et4 ?_
    refine g_put (pc := 28) (ws2 := (ws_X7_append G q_this q_text q_kinds q_places q_values t4 c_size w3)) 0 1 hC inX7 tyX7_ok nmX7 dX7_append_28 W1_41 rfl rfl (Nat.le_of_ble_eq_true rfl) rfl rfl rfl rfl rfl (Nat.le_of_ble_eq_true rfl) rfl ?_
    obtain rfl := Option.some.inj hf
    exact g_vret (pc := 31) hC hQ dX7_append_31
/-! CoilBench$Adder.append(LCoilBench$Tokens;Ljava/lang/String;I)V -/
abbrev ws_X0_append (G : Gx) (q_p0 : Nat) (q_p0_text : Nat) (q_p0_kinds : Nat) (q_p0_places : Nat) (q_p0_values : Nat) (c_p0_length : Int32) (c_p0_size : Int32) (c_p0_text : Nat → Int32) : va_W := [(q_p0, eO 6 [.ref q_p0_text, .int c_p0_length, .ref q_p0_kinds, .ref q_p0_places, .ref q_p0_values, .int c_p0_size]), (q_p0_text, eB G 4000 c_p0_text)]
theorem mY_X0_append : vY yX0_append cX0_append 5 (none) 3 := ⟨W3_150, W1_18, ⟨by decide +kernel, by decide +kernel⟩, by decide +kernel⟩
def f_X0_append_63 (k2 : Int32 → Int32 → Int32 → (Nat → Int32) → Option (Int32 × (Nat → Int32))) (j1 : Nat) (x2 : Int32) (x3 : Int32) (c_p0_length : Int32) (c_p0_text : Nat → Int32) : Option (Int32 × (Nat → Int32)) := vlet (x3 + (1 : Int32)) fun t1 => (k2 x2 t1 c_p0_length c_p0_text)
set_option maxHeartbeats 4000000 in
set_option maxRecDepth 100000 in
theorem w_X0_append_63 {G : Gx} {C : Cx} (hC : vH G C cX0_append RX0 5 (none) { frames := 4, cells := 0, slots := 0, locals := 85 }) (q_p0 : Nat) (q_p0_text : Nat) (q_p0_kinds : Nat) (q_p0_places : Nat) (q_p0_values : Nat) (c_p0_size : Int32) (j1 : Nat) (hj1 : j1 < 22) (R : Int32 × (Nat → Int32)) (hQ : vR G C 0 0 none (ws_X0_append G q_p0 q_p0_text q_p0_kinds q_p0_places q_p0_values R.1 c_p0_size R.2)) (k2 : Int32 → Int32 → Int32 → (Nat → Int32) → Option (Int32 × (Nat → Int32))) (hk2 : ∀ (x2 : Int32) (x3 : Int32) (c_p0_length : Int32) (c_p0_text : Nat → Int32), k2 x2 x3 c_p0_length c_p0_text = some R → vG G C 0 0 2 [(0, .ref q_p0), (1, .ref (sK G j1)), (2, .int x2), (3, .int x3)] [] (ws_X0_append G q_p0 q_p0_text q_p0_kinds q_p0_places q_p0_values c_p0_length c_p0_size c_p0_text)) (x2 : Int32) (x3 : Int32) (c_p0_length : Int32) (c_p0_text : Nat → Int32) (hf : f_X0_append_63 k2 j1 x2 x3 c_p0_length c_p0_text = some R) : vG G C 0 0 63 [(0, .ref q_p0), (1, .ref (sK G j1)), (2, .int x2), (3, .int x3)] [] (ws_X0_append G q_p0 q_p0_text q_p0_kinds q_p0_places q_p0_values c_p0_length c_p0_size c_p0_text) := by
  rw [f_X0_append_63] at hf
  obtain ⟨t1, et1, hf⟩ := vlet_s hf
  refine g_iinc (pc := 63) 3 [(3, .int t1), (0, .ref q_p0), (1, .ref (sK G j1)), (2, .int x2)] hC dX0_append_63 rfl (by rw [et1]; rfl) (Nat.le_of_ble_eq_true rfl) rfl ?_
  refine g_goto (pc := 66) 2 hC dX0_append_66 (by decide) ?_
  refine g_sub (lv2 := [(0, .ref q_p0), (1, .ref (sK G j1)), (2, .int x2), (3, .int t1)]) [1, 2, 3, 0] rfl ?_
  exact hk2 x2 t1 c_p0_length c_p0_text hf
def f_X0_append_2 (j1 : Nat) : Nat → (Int32) → (Int32) → (Int32) → (Nat → Int32) → Option (Int32 × (Nat → Int32))
  | 0, _, _, _, _ => none
  | n + 1, x2, x3, c_p0_length, c_p0_text => if (nI (sLe.getD j1 0)) ≤ x3 then (some (c_p0_length, c_p0_text)) else (if bad x3 (sLe.getD j1 0) = true then none else vlet ((sCh j1 x3)) fun t2 => if t2 = (35 : Int32) then ((f_X7_append (xi2c ((48 : Int32) + x2)) c_p0_length c_p0_text).bind fun r5 => (f_X0_append_63 (f_X0_append_2 j1 n) j1 x2 x3 r5.1 r5.2)) else (if t2 = (64 : Int32) then ((f_X7_append (xi2c (((48 : Int32) + x2) + (1 : Int32))) c_p0_length c_p0_text).bind fun r4 => (f_X0_append_63 (f_X0_append_2 j1 n) j1 x2 x3 r4.1 r4.2)) else ((f_X7_append t2 c_p0_length c_p0_text).bind fun r3 => (f_X0_append_63 (f_X0_append_2 j1 n) j1 x2 x3 r3.1 r3.2))))
set_option maxHeartbeats 4000000 in
set_option maxRecDepth 100000 in
theorem w_X0_append_2 {G : Gx} {C : Cx} (hC : vH G C cX0_append RX0 5 (none) { frames := 4, cells := 0, slots := 0, locals := 85 }) (q_p0 : Nat) (q_p0_text : Nat) (q_p0_kinds : Nat) (q_p0_places : Nat) (q_p0_values : Nat) (c_p0_size : Int32) (j1 : Nat) (hj1 : j1 < 22) (R : Int32 × (Nat → Int32)) (hQ : vR G C 0 0 none (ws_X0_append G q_p0 q_p0_text q_p0_kinds q_p0_places q_p0_values R.1 c_p0_size R.2)) : ∀ (n : Nat) (x2 : Int32) (x3 : Int32) (c_p0_length : Int32) (c_p0_text : Nat → Int32), f_X0_append_2 j1 n x2 x3 c_p0_length c_p0_text = some R → vG G C 0 0 2 [(0, .ref q_p0), (1, .ref (sK G j1)), (2, .int x2), (3, .int x3)] [] (ws_X0_append G q_p0 q_p0_text q_p0_kinds q_p0_places q_p0_values c_p0_length c_p0_size c_p0_text) := by
  intro n
  induction n with
  | zero => intro x2 x3 c_p0_length c_p0_text hf; rw [f_X0_append_2] at hf; cases hf
  | succ n ih =>
    intro x2 x3 c_p0_length c_p0_text hf
    rw [f_X0_append_2] at hf
    refine g_iload_n (pc := 2) 3 hC dX0_append_2 rfl ?_
    refine g_aload_n (pc := 3) 1 hC dX0_append_3 rfl ?_
    refine g_callTi (pc := 4) (st := [.int x3]) (wc2 := []) (ws2 := (ws_X0_append G q_p0 q_p0_text q_p0_kinds q_p0_places q_p0_values c_p0_length c_p0_size c_p0_text)) [] hj1 hC (c_J0_length_8abf5 G j1 hj1) mY_J0_length_8abf5 mI_J0_length_8abf5 W3_151 dX0_append_4 rfl rfl rfl rfl rfl rfl rfl ⟨Nat.le_of_ble_eq_true rfl, Nat.le_of_ble_eq_true rfl⟩ ⟨Nat.le_refl 0, Nat.le_refl 0⟩ (Nat.le_of_ble_eq_true rfl) ?_
    refine g_icmp_ge (pc := 7) 69 hC dX0_append_7 (by decide) (fun hb => ?_) (fun hb => ?_)
    · replace hf := ite_t hf hb
      obtain rfl := Option.some.inj hf
      exact g_vret (pc := 69) hC hQ dX0_append_69
    · replace hf := ite_f hf hb
      refine g_aload_n (pc := 10) 1 hC dX0_append_10 rfl ?_
      refine g_iload_n (pc := 11) 3 hC dX0_append_11 rfl ?_
      obtain ⟨h1, hf⟩ := bad_s hf
      refine g_callTi (pc := 12) (st := []) (wc2 := []) (ws2 := (ws_X0_append G q_p0 q_p0_text q_p0_kinds q_p0_places q_p0_values c_p0_length c_p0_size c_p0_text)) [] hj1 hC (c_J0_charAt_5068e G j1 hj1 x3 h1) mY_J0_charAt_5068e mI_J0_charAt_5068e W3_152 dX0_append_12 rfl rfl rfl rfl rfl rfl rfl ⟨Nat.le_of_ble_eq_true rfl, Nat.le_of_ble_eq_true rfl⟩ ⟨Nat.le_refl 0, Nat.le_refl 0⟩ (Nat.le_of_ble_eq_true rfl) ?_
      obtain ⟨t2, et2, hf⟩ := vlet_s hf
      refine g_nmi et2 ?_
      refine g_istore (pc := 15) [(4, .int t2), (0, .ref q_p0), (1, .ref (sK G j1)), (2, .int x2), (3, .int x3)] hC dX0_append_15 (Nat.le_of_ble_eq_true rfl) rfl ?_
      refine g_iload (pc := 17) 0 hC dX0_append_17 rfl ?_
      refine g_bipush (pc := 19) (35 : Int32) hC dX0_append_19 rfl ?_
      refine g_icmp_ne (pc := 21) 36 hC dX0_append_21 (by decide) (fun hb => ?_) (fun hb => ?_)
      · replace hf := ite_f hf hb
        refine g_iload (pc := 36) 0 hC dX0_append_36 rfl ?_
        refine g_bipush (pc := 38) (64 : Int32) hC dX0_append_38 rfl ?_
        refine g_icmp_ne (pc := 40) 57 hC dX0_append_40 (by decide) (fun hb => ?_) (fun hb => ?_)
        · replace hf := ite_f hf hb
          refine g_aload_n (pc := 57) 1 hC dX0_append_57 rfl ?_
          refine g_iload (pc := 58) 0 hC dX0_append_58 rfl ?_
          obtain ⟨r3, hr3, hf⟩ := bnd_s hf
          refine g_callVv (pc := 60) (st := []) (wc2 := (ws_X7_append G q_p0 q_p0_text q_p0_kinds q_p0_places q_p0_values r3.1 c_p0_size r3.2)) (ws2 := (ws_X0_append G q_p0 q_p0_text q_p0_kinds q_p0_places q_p0_values r3.1 c_p0_size r3.2)) [0, 1] 0 hC (c_X7_append G q_p0 q_p0_text q_p0_kinds q_p0_places q_p0_values c_p0_length c_p0_size c_p0_text t2 r3 hr3) mY_X7_append mI_X7_append W3_153 dX0_append_60 rfl rfl rfl rfl rfl rfl rfl rfl rfl ⟨Nat.le_of_ble_eq_true rfl, Nat.le_of_ble_eq_true rfl⟩ ⟨Nat.le_refl 0, Nat.le_refl 0⟩ (Nat.le_of_ble_eq_true rfl) ?_
          refine g_sub (lv2 := [(0, .ref q_p0), (1, .ref (sK G j1)), (2, .int x2), (3, .int x3)]) [1, 2, 3, 4] rfl ?_
          exact w_X0_append_63 hC q_p0 q_p0_text q_p0_kinds q_p0_places q_p0_values c_p0_size j1 hj1 R hQ (f_X0_append_2 j1 n) ih x2 x3 r3.1 r3.2 hf
        · replace hf := ite_t hf hb
          refine g_aload_n (pc := 43) 1 hC dX0_append_43 rfl ?_
          refine g_bipush (pc := 44) (48 : Int32) hC dX0_append_44 rfl ?_
          refine g_iload_n (pc := 46) 3 hC dX0_append_46 rfl ?_
          refine g_iadd (pc := 47) hC dX0_append_47 ?_
          refine g_iconst (pc := 48) (1 : Int32) hC dX0_append_48 rfl ?_
          refine g_iadd (pc := 49) hC dX0_append_49 ?_
          refine g_i2c (pc := 50) hC dX0_append_50 ?_
          obtain ⟨r4, hr4, hf⟩ := bnd_s hf
          refine g_callVv (pc := 51) (st := []) (wc2 := (ws_X7_append G q_p0 q_p0_text q_p0_kinds q_p0_places q_p0_values r4.1 c_p0_size r4.2)) (ws2 := (ws_X0_append G q_p0 q_p0_text q_p0_kinds q_p0_places q_p0_values r4.1 c_p0_size r4.2)) [0, 1] 0 hC (c_X7_append G q_p0 q_p0_text q_p0_kinds q_p0_places q_p0_values c_p0_length c_p0_size c_p0_text (xi2c (((48 : Int32) + x2) + (1 : Int32))) r4 hr4) mY_X7_append mI_X7_append W3_153 dX0_append_51 rfl rfl rfl rfl rfl rfl rfl rfl rfl ⟨Nat.le_of_ble_eq_true rfl, Nat.le_of_ble_eq_true rfl⟩ ⟨Nat.le_refl 0, Nat.le_refl 0⟩ (Nat.le_of_ble_eq_true rfl) ?_
          refine g_goto (pc := 54) 63 hC dX0_append_54 (by decide) ?_
          refine g_sub (lv2 := [(0, .ref q_p0), (1, .ref (sK G j1)), (2, .int x2), (3, .int x3)]) [1, 2, 3, 4] rfl ?_
          exact w_X0_append_63 hC q_p0 q_p0_text q_p0_kinds q_p0_places q_p0_values c_p0_size j1 hj1 R hQ (f_X0_append_2 j1 n) ih x2 x3 r4.1 r4.2 hf
      · replace hf := ite_t hf hb
        refine g_aload_n (pc := 24) 1 hC dX0_append_24 rfl ?_
        refine g_bipush (pc := 25) (48 : Int32) hC dX0_append_25 rfl ?_
        refine g_iload_n (pc := 27) 3 hC dX0_append_27 rfl ?_
        refine g_iadd (pc := 28) hC dX0_append_28 ?_
        refine g_i2c (pc := 29) hC dX0_append_29 ?_
        obtain ⟨r5, hr5, hf⟩ := bnd_s hf
        refine g_callVv (pc := 30) (st := []) (wc2 := (ws_X7_append G q_p0 q_p0_text q_p0_kinds q_p0_places q_p0_values r5.1 c_p0_size r5.2)) (ws2 := (ws_X0_append G q_p0 q_p0_text q_p0_kinds q_p0_places q_p0_values r5.1 c_p0_size r5.2)) [0, 1] 0 hC (c_X7_append G q_p0 q_p0_text q_p0_kinds q_p0_places q_p0_values c_p0_length c_p0_size c_p0_text (xi2c ((48 : Int32) + x2)) r5 hr5) mY_X7_append mI_X7_append W3_153 dX0_append_30 rfl rfl rfl rfl rfl rfl rfl rfl rfl ⟨Nat.le_of_ble_eq_true rfl, Nat.le_of_ble_eq_true rfl⟩ ⟨Nat.le_refl 0, Nat.le_refl 0⟩ (Nat.le_of_ble_eq_true rfl) ?_
        refine g_goto (pc := 33) 63 hC dX0_append_33 (by decide) ?_
        refine g_sub (lv2 := [(0, .ref q_p0), (1, .ref (sK G j1)), (2, .int x2), (3, .int x3)]) [1, 2, 3, 4] rfl ?_
        exact w_X0_append_63 hC q_p0 q_p0_text q_p0_kinds q_p0_places q_p0_values c_p0_size j1 hj1 R hQ (f_X0_append_2 j1 n) ih x2 x3 r5.1 r5.2 hf
def f_X0_append (j1 : Nat) (x2 : Int32) (c_p0_length : Int32) (c_p0_text : Nat → Int32) : Option (Int32 × (Nat → Int32)) := (f_X0_append_2 j1 FU x2 (0 : Int32) c_p0_length c_p0_text)
set_option maxHeartbeats 4000000 in
set_option maxRecDepth 100000 in
theorem c_X0_append (G : Gx) (q_p0 : Nat) (q_p0_text : Nat) (q_p0_kinds : Nat) (q_p0_places : Nat) (q_p0_values : Nat) (c_p0_length : Int32) (c_p0_size : Int32) (c_p0_text : Nat → Int32) (j1 : Nat) (hj1 : j1 < 22) (x2 : Int32) (R : Int32 × (Nat → Int32)) (hf : f_X0_append j1 x2 c_p0_length c_p0_text = some R) : vM G yX0_append cX0_append 5 (none) 4 85 [.ref q_p0, .ref (sK G j1), .int x2] (ws_X0_append G q_p0 q_p0_text q_p0_kinds q_p0_places q_p0_values c_p0_length c_p0_size c_p0_text) none (ws_X0_append G q_p0 q_p0_text q_p0_kinds q_p0_places q_p0_values R.1 c_p0_size R.2) := by
  refine vM_of (by decide +kernel) (Nat.le_of_ble_eq_true rfl) [(0, .ref q_p0), (1, .ref (sK G j1)), (2, .int x2)] rfl (fun C hC hQ => ?_)
  have hC : vH G C cX0_append RX0 5 (none) { frames := 4, cells := 0, slots := 0, locals := 85 } := hC
  rw [f_X0_append] at hf
  refine g_iconst (pc := 0) (0 : Int32) hC dX0_append_0 rfl ?_
  refine g_istore_n (pc := 1) [(3, .int (0 : Int32)), (0, .ref q_p0), (1, .ref (sK G j1)), (2, .int x2)] hC dX0_append_1 (Nat.le_of_ble_eq_true rfl) rfl ?_
  refine g_sub (lv2 := [(0, .ref q_p0), (1, .ref (sK G j1)), (2, .int x2), (3, .int (0 : Int32))]) [1, 2, 3, 0] rfl ?_
  exact w_X0_append_2 hC q_p0 q_p0_text q_p0_kinds q_p0_places q_p0_values c_p0_size j1 hj1 R hQ FU x2 (0 : Int32) c_p0_length c_p0_text hf
/-! CoilBench$Adder.write(LCoilBench$Tokens;I)V -/
abbrev ws_X0_write (G : Gx) (q_p0 : Nat) (q_p0_text : Nat) (q_p0_kinds : Nat) (q_p0_places : Nat) (q_p0_values : Nat) (c_p0_length : Int32) (c_p0_size : Int32) (c_p0_text : Nat → Int32) : va_W := [(q_p0, eO 6 [.ref q_p0_text, .int c_p0_length, .ref q_p0_kinds, .ref q_p0_places, .ref q_p0_values, .int c_p0_size]), (q_p0_text, eB G 4000 c_p0_text)]
theorem mY_X0_write : vY yX0_write cX0_write 3 (none) 2 := ⟨W3_142, W1_18, ⟨by decide +kernel, by decide +kernel⟩, by decide +kernel⟩
def f_X0_write_6 : Nat → (Int32) → (Int32) → (Int32) → (Nat → Int32) → Option (Int32 × (Nat → Int32))
  | 0, _, _, _, _ => none
  | n + 1, x1, x2, c_p0_length, c_p0_text => if x1 ≤ x2 then ((f_X0_append 20 x1 c_p0_length c_p0_text).bind fun r1 => (f_X0_append 21 x1 r1.1 r1.2).bind fun r2 => some (r2.1, r2.2)) else ((f_X0_append 10 x2 c_p0_length c_p0_text).bind fun r3 => (f_X0_append 11 x2 r3.1 r3.2).bind fun r4 => (f_X0_append 12 x2 r4.1 r4.2).bind fun r5 => (f_X0_append 13 x2 r5.1 r5.2).bind fun r6 => (f_X0_append 14 x2 r6.1 r6.2).bind fun r7 => (f_X0_append 15 x2 r7.1 r7.2).bind fun r8 => (f_X0_append 16 x2 r8.1 r8.2).bind fun r9 => (f_X0_append 17 x2 r9.1 r9.2).bind fun r10 => (f_X0_append 18 x2 r10.1 r10.2).bind fun r11 => (f_X0_append 19 x2 r11.1 r11.2).bind fun r12 => (f_X0_append 20 x2 r12.1 r12.2).bind fun r13 => vlet (x2 + (1 : Int32)) fun t14 => (f_X0_write_6 n x1 t14 r13.1 r13.2))
set_option maxHeartbeats 4000000 in
set_option maxRecDepth 100000 in
theorem w_X0_write_6 {G : Gx} {C : Cx} (hC : vH G C cX0_write RX0 3 (none) { frames := 5, cells := 0, slots := 0, locals := 109 }) (q_p0 : Nat) (q_p0_text : Nat) (q_p0_kinds : Nat) (q_p0_places : Nat) (q_p0_values : Nat) (c_p0_size : Int32) (R : Int32 × (Nat → Int32)) (hQ : vR G C 0 0 none (ws_X0_write G q_p0 q_p0_text q_p0_kinds q_p0_places q_p0_values R.1 c_p0_size R.2)) : ∀ (n : Nat) (x1 : Int32) (x2 : Int32) (c_p0_length : Int32) (c_p0_text : Nat → Int32), f_X0_write_6 n x1 x2 c_p0_length c_p0_text = some R → vG G C 0 0 6 [(0, .ref q_p0), (1, .int x1), (2, .int x2)] [] (ws_X0_write G q_p0 q_p0_text q_p0_kinds q_p0_places q_p0_values c_p0_length c_p0_size c_p0_text) := by
  intro n
  induction n with
  | zero => intro x1 x2 c_p0_length c_p0_text hf; rw [f_X0_write_6] at hf; cases hf
  | succ n ih =>
    intro x1 x2 c_p0_length c_p0_text hf
    rw [f_X0_write_6] at hf
    refine g_iload_n (pc := 6) 2 hC dX0_write_6 rfl ?_
    refine g_iload_n (pc := 7) 1 hC dX0_write_7 rfl ?_
    refine g_icmp_ge (pc := 8) 94 hC dX0_write_8 (by decide) (fun hb => ?_) (fun hb => ?_)
    · replace hf := ite_t hf hb
      refine g_aload_n (pc := 94) 0 hC dX0_write_94 rfl ?_
      refine g_ldcS (pc := 95) (j := 20) hC dX0_write_95 rfl ?_
      refine g_iload_n (pc := 97) 1 hC dX0_write_97 rfl ?_
      obtain ⟨r1, hr1, hf⟩ := bnd_s hf
      refine g_callSv (pc := 98) (st := []) (wc2 := (ws_X0_append G q_p0 q_p0_text q_p0_kinds q_p0_places q_p0_values r1.1 c_p0_size r1.2)) (ws2 := (ws_X0_write G q_p0 q_p0_text q_p0_kinds q_p0_places q_p0_values r1.1 c_p0_size r1.2)) [0, 1] hC (c_X0_append G q_p0 q_p0_text q_p0_kinds q_p0_places q_p0_values c_p0_length c_p0_size c_p0_text 20 (Nat.le_of_ble_eq_true rfl) x1 r1 hr1) mY_X0_append W3_149 W3_148 dX0_write_98 rfl rfl rfl rfl rfl rfl ⟨Nat.le_of_ble_eq_true rfl, Nat.le_of_ble_eq_true rfl⟩ ⟨Nat.le_refl 0, Nat.le_refl 0⟩ (Nat.le_of_ble_eq_true rfl) ?_
      refine g_aload_n (pc := 101) 0 hC dX0_write_101 rfl ?_
      refine g_ldcS (pc := 102) (j := 21) hC dX0_write_102 rfl ?_
      refine g_iload_n (pc := 104) 1 hC dX0_write_104 rfl ?_
      obtain ⟨r2, hr2, hf⟩ := bnd_s hf
      refine g_callSv (pc := 105) (st := []) (wc2 := (ws_X0_append G q_p0 q_p0_text q_p0_kinds q_p0_places q_p0_values r2.1 c_p0_size r2.2)) (ws2 := (ws_X0_write G q_p0 q_p0_text q_p0_kinds q_p0_places q_p0_values r2.1 c_p0_size r2.2)) [0, 1] hC (c_X0_append G q_p0 q_p0_text q_p0_kinds q_p0_places q_p0_values r1.1 c_p0_size r1.2 21 (Nat.le_of_ble_eq_true rfl) x1 r2 hr2) mY_X0_append W3_149 W3_148 dX0_write_105 rfl rfl rfl rfl rfl rfl ⟨Nat.le_of_ble_eq_true rfl, Nat.le_of_ble_eq_true rfl⟩ ⟨Nat.le_refl 0, Nat.le_refl 0⟩ (Nat.le_of_ble_eq_true rfl) ?_
      obtain rfl := Option.some.inj hf
      exact g_vret (pc := 108) hC hQ dX0_write_108
    · replace hf := ite_f hf hb
      refine g_aload_n (pc := 11) 0 hC dX0_write_11 rfl ?_
      refine g_ldcS (pc := 12) (j := 10) hC dX0_write_12 rfl ?_
      refine g_iload_n (pc := 14) 2 hC dX0_write_14 rfl ?_
      obtain ⟨r3, hr3, hf⟩ := bnd_s hf
      refine g_callSv (pc := 15) (st := []) (wc2 := (ws_X0_append G q_p0 q_p0_text q_p0_kinds q_p0_places q_p0_values r3.1 c_p0_size r3.2)) (ws2 := (ws_X0_write G q_p0 q_p0_text q_p0_kinds q_p0_places q_p0_values r3.1 c_p0_size r3.2)) [0, 1] hC (c_X0_append G q_p0 q_p0_text q_p0_kinds q_p0_places q_p0_values c_p0_length c_p0_size c_p0_text 10 (Nat.le_of_ble_eq_true rfl) x2 r3 hr3) mY_X0_append W3_149 W3_148 dX0_write_15 rfl rfl rfl rfl rfl rfl ⟨Nat.le_of_ble_eq_true rfl, Nat.le_of_ble_eq_true rfl⟩ ⟨Nat.le_refl 0, Nat.le_refl 0⟩ (Nat.le_of_ble_eq_true rfl) ?_
      refine g_aload_n (pc := 18) 0 hC dX0_write_18 rfl ?_
      refine g_ldcS (pc := 19) (j := 11) hC dX0_write_19 rfl ?_
      refine g_iload_n (pc := 21) 2 hC dX0_write_21 rfl ?_
      obtain ⟨r4, hr4, hf⟩ := bnd_s hf
      refine g_callSv (pc := 22) (st := []) (wc2 := (ws_X0_append G q_p0 q_p0_text q_p0_kinds q_p0_places q_p0_values r4.1 c_p0_size r4.2)) (ws2 := (ws_X0_write G q_p0 q_p0_text q_p0_kinds q_p0_places q_p0_values r4.1 c_p0_size r4.2)) [0, 1] hC (c_X0_append G q_p0 q_p0_text q_p0_kinds q_p0_places q_p0_values r3.1 c_p0_size r3.2 11 (Nat.le_of_ble_eq_true rfl) x2 r4 hr4) mY_X0_append W3_149 W3_148 dX0_write_22 rfl rfl rfl rfl rfl rfl ⟨Nat.le_of_ble_eq_true rfl, Nat.le_of_ble_eq_true rfl⟩ ⟨Nat.le_refl 0, Nat.le_refl 0⟩ (Nat.le_of_ble_eq_true rfl) ?_
      refine g_aload_n (pc := 25) 0 hC dX0_write_25 rfl ?_
      refine g_ldcS (pc := 26) (j := 12) hC dX0_write_26 rfl ?_
      refine g_iload_n (pc := 28) 2 hC dX0_write_28 rfl ?_
      obtain ⟨r5, hr5, hf⟩ := bnd_s hf
      refine g_callSv (pc := 29) (st := []) (wc2 := (ws_X0_append G q_p0 q_p0_text q_p0_kinds q_p0_places q_p0_values r5.1 c_p0_size r5.2)) (ws2 := (ws_X0_write G q_p0 q_p0_text q_p0_kinds q_p0_places q_p0_values r5.1 c_p0_size r5.2)) [0, 1] hC (c_X0_append G q_p0 q_p0_text q_p0_kinds q_p0_places q_p0_values r4.1 c_p0_size r4.2 12 (Nat.le_of_ble_eq_true rfl) x2 r5 hr5) mY_X0_append W3_149 W3_148 dX0_write_29 rfl rfl rfl rfl rfl rfl ⟨Nat.le_of_ble_eq_true rfl, Nat.le_of_ble_eq_true rfl⟩ ⟨Nat.le_refl 0, Nat.le_refl 0⟩ (Nat.le_of_ble_eq_true rfl) ?_
      refine g_aload_n (pc := 32) 0 hC dX0_write_32 rfl ?_
      refine g_ldcS (pc := 33) (j := 13) hC dX0_write_33 rfl ?_
      refine g_iload_n (pc := 35) 2 hC dX0_write_35 rfl ?_
      obtain ⟨r6, hr6, hf⟩ := bnd_s hf
      refine g_callSv (pc := 36) (st := []) (wc2 := (ws_X0_append G q_p0 q_p0_text q_p0_kinds q_p0_places q_p0_values r6.1 c_p0_size r6.2)) (ws2 := (ws_X0_write G q_p0 q_p0_text q_p0_kinds q_p0_places q_p0_values r6.1 c_p0_size r6.2)) [0, 1] hC (c_X0_append G q_p0 q_p0_text q_p0_kinds q_p0_places q_p0_values r5.1 c_p0_size r5.2 13 (Nat.le_of_ble_eq_true rfl) x2 r6 hr6) mY_X0_append W3_149 W3_148 dX0_write_36 rfl rfl rfl rfl rfl rfl ⟨Nat.le_of_ble_eq_true rfl, Nat.le_of_ble_eq_true rfl⟩ ⟨Nat.le_refl 0, Nat.le_refl 0⟩ (Nat.le_of_ble_eq_true rfl) ?_
      refine g_aload_n (pc := 39) 0 hC dX0_write_39 rfl ?_
      refine g_ldcS (pc := 40) (j := 14) hC dX0_write_40 rfl ?_
      refine g_iload_n (pc := 42) 2 hC dX0_write_42 rfl ?_
      obtain ⟨r7, hr7, hf⟩ := bnd_s hf
      refine g_callSv (pc := 43) (st := []) (wc2 := (ws_X0_append G q_p0 q_p0_text q_p0_kinds q_p0_places q_p0_values r7.1 c_p0_size r7.2)) (ws2 := (ws_X0_write G q_p0 q_p0_text q_p0_kinds q_p0_places q_p0_values r7.1 c_p0_size r7.2)) [0, 1] hC (c_X0_append G q_p0 q_p0_text q_p0_kinds q_p0_places q_p0_values r6.1 c_p0_size r6.2 14 (Nat.le_of_ble_eq_true rfl) x2 r7 hr7) mY_X0_append W3_149 W3_148 dX0_write_43 rfl rfl rfl rfl rfl rfl ⟨Nat.le_of_ble_eq_true rfl, Nat.le_of_ble_eq_true rfl⟩ ⟨Nat.le_refl 0, Nat.le_refl 0⟩ (Nat.le_of_ble_eq_true rfl) ?_
      refine g_aload_n (pc := 46) 0 hC dX0_write_46 rfl ?_
      refine g_ldcS (pc := 47) (j := 15) hC dX0_write_47 rfl ?_
      refine g_iload_n (pc := 49) 2 hC dX0_write_49 rfl ?_
      obtain ⟨r8, hr8, hf⟩ := bnd_s hf
      refine g_callSv (pc := 50) (st := []) (wc2 := (ws_X0_append G q_p0 q_p0_text q_p0_kinds q_p0_places q_p0_values r8.1 c_p0_size r8.2)) (ws2 := (ws_X0_write G q_p0 q_p0_text q_p0_kinds q_p0_places q_p0_values r8.1 c_p0_size r8.2)) [0, 1] hC (c_X0_append G q_p0 q_p0_text q_p0_kinds q_p0_places q_p0_values r7.1 c_p0_size r7.2 15 (Nat.le_of_ble_eq_true rfl) x2 r8 hr8) mY_X0_append W3_149 W3_148 dX0_write_50 rfl rfl rfl rfl rfl rfl ⟨Nat.le_of_ble_eq_true rfl, Nat.le_of_ble_eq_true rfl⟩ ⟨Nat.le_refl 0, Nat.le_refl 0⟩ (Nat.le_of_ble_eq_true rfl) ?_
      refine g_aload_n (pc := 53) 0 hC dX0_write_53 rfl ?_
      refine g_ldcS (pc := 54) (j := 16) hC dX0_write_54 rfl ?_
      refine g_iload_n (pc := 56) 2 hC dX0_write_56 rfl ?_
      obtain ⟨r9, hr9, hf⟩ := bnd_s hf
      refine g_callSv (pc := 57) (st := []) (wc2 := (ws_X0_append G q_p0 q_p0_text q_p0_kinds q_p0_places q_p0_values r9.1 c_p0_size r9.2)) (ws2 := (ws_X0_write G q_p0 q_p0_text q_p0_kinds q_p0_places q_p0_values r9.1 c_p0_size r9.2)) [0, 1] hC (c_X0_append G q_p0 q_p0_text q_p0_kinds q_p0_places q_p0_values r8.1 c_p0_size r8.2 16 (Nat.le_of_ble_eq_true rfl) x2 r9 hr9) mY_X0_append W3_149 W3_148 dX0_write_57 rfl rfl rfl rfl rfl rfl ⟨Nat.le_of_ble_eq_true rfl, Nat.le_of_ble_eq_true rfl⟩ ⟨Nat.le_refl 0, Nat.le_refl 0⟩ (Nat.le_of_ble_eq_true rfl) ?_
      refine g_aload_n (pc := 60) 0 hC dX0_write_60 rfl ?_
      refine g_ldcS (pc := 61) (j := 17) hC dX0_write_61 rfl ?_
      refine g_iload_n (pc := 63) 2 hC dX0_write_63 rfl ?_
      obtain ⟨r10, hr10, hf⟩ := bnd_s hf
      refine g_callSv (pc := 64) (st := []) (wc2 := (ws_X0_append G q_p0 q_p0_text q_p0_kinds q_p0_places q_p0_values r10.1 c_p0_size r10.2)) (ws2 := (ws_X0_write G q_p0 q_p0_text q_p0_kinds q_p0_places q_p0_values r10.1 c_p0_size r10.2)) [0, 1] hC (c_X0_append G q_p0 q_p0_text q_p0_kinds q_p0_places q_p0_values r9.1 c_p0_size r9.2 17 (Nat.le_of_ble_eq_true rfl) x2 r10 hr10) mY_X0_append W3_149 W3_148 dX0_write_64 rfl rfl rfl rfl rfl rfl ⟨Nat.le_of_ble_eq_true rfl, Nat.le_of_ble_eq_true rfl⟩ ⟨Nat.le_refl 0, Nat.le_refl 0⟩ (Nat.le_of_ble_eq_true rfl) ?_
      refine g_aload_n (pc := 67) 0 hC dX0_write_67 rfl ?_
      refine g_ldcS (pc := 68) (j := 18) hC dX0_write_68 rfl ?_
      refine g_iload_n (pc := 70) 2 hC dX0_write_70 rfl ?_
      obtain ⟨r11, hr11, hf⟩ := bnd_s hf
      refine g_callSv (pc := 71) (st := []) (wc2 := (ws_X0_append G q_p0 q_p0_text q_p0_kinds q_p0_places q_p0_values r11.1 c_p0_size r11.2)) (ws2 := (ws_X0_write G q_p0 q_p0_text q_p0_kinds q_p0_places q_p0_values r11.1 c_p0_size r11.2)) [0, 1] hC (c_X0_append G q_p0 q_p0_text q_p0_kinds q_p0_places q_p0_values r10.1 c_p0_size r10.2 18 (Nat.le_of_ble_eq_true rfl) x2 r11 hr11) mY_X0_append W3_149 W3_148 dX0_write_71 rfl rfl rfl rfl rfl rfl ⟨Nat.le_of_ble_eq_true rfl, Nat.le_of_ble_eq_true rfl⟩ ⟨Nat.le_refl 0, Nat.le_refl 0⟩ (Nat.le_of_ble_eq_true rfl) ?_
      refine g_aload_n (pc := 74) 0 hC dX0_write_74 rfl ?_
      refine g_ldcS (pc := 75) (j := 19) hC dX0_write_75 rfl ?_
      refine g_iload_n (pc := 77) 2 hC dX0_write_77 rfl ?_
      obtain ⟨r12, hr12, hf⟩ := bnd_s hf
      refine g_callSv (pc := 78) (st := []) (wc2 := (ws_X0_append G q_p0 q_p0_text q_p0_kinds q_p0_places q_p0_values r12.1 c_p0_size r12.2)) (ws2 := (ws_X0_write G q_p0 q_p0_text q_p0_kinds q_p0_places q_p0_values r12.1 c_p0_size r12.2)) [0, 1] hC (c_X0_append G q_p0 q_p0_text q_p0_kinds q_p0_places q_p0_values r11.1 c_p0_size r11.2 19 (Nat.le_of_ble_eq_true rfl) x2 r12 hr12) mY_X0_append W3_149 W3_148 dX0_write_78 rfl rfl rfl rfl rfl rfl ⟨Nat.le_of_ble_eq_true rfl, Nat.le_of_ble_eq_true rfl⟩ ⟨Nat.le_refl 0, Nat.le_refl 0⟩ (Nat.le_of_ble_eq_true rfl) ?_
      refine g_aload_n (pc := 81) 0 hC dX0_write_81 rfl ?_
      refine g_ldcS (pc := 82) (j := 20) hC dX0_write_82 rfl ?_
      refine g_iload_n (pc := 84) 2 hC dX0_write_84 rfl ?_
      obtain ⟨r13, hr13, hf⟩ := bnd_s hf
      refine g_callSv (pc := 85) (st := []) (wc2 := (ws_X0_append G q_p0 q_p0_text q_p0_kinds q_p0_places q_p0_values r13.1 c_p0_size r13.2)) (ws2 := (ws_X0_write G q_p0 q_p0_text q_p0_kinds q_p0_places q_p0_values r13.1 c_p0_size r13.2)) [0, 1] hC (c_X0_append G q_p0 q_p0_text q_p0_kinds q_p0_places q_p0_values r12.1 c_p0_size r12.2 20 (Nat.le_of_ble_eq_true rfl) x2 r13 hr13) mY_X0_append W3_149 W3_148 dX0_write_85 rfl rfl rfl rfl rfl rfl ⟨Nat.le_of_ble_eq_true rfl, Nat.le_of_ble_eq_true rfl⟩ ⟨Nat.le_refl 0, Nat.le_refl 0⟩ (Nat.le_of_ble_eq_true rfl) ?_
      obtain ⟨t14, et14, hf⟩ := vlet_s hf
      refine g_iinc (pc := 88) 2 [(2, .int t14), (0, .ref q_p0), (1, .int x1)] hC dX0_write_88 rfl (by rw [et14]; rfl) (Nat.le_of_ble_eq_true rfl) rfl ?_
      refine g_goto (pc := 91) 6 hC dX0_write_91 (by decide) ?_
      refine g_sub (lv2 := [(0, .ref q_p0), (1, .int x1), (2, .int t14)]) [1, 2, 0] rfl ?_
      exact ih x1 t14 r13.1 r13.2 hf
def f_X0_write (x1 : Int32) (c_p0_length : Int32) (c_p0_text : Nat → Int32) : Option (Int32 × (Nat → Int32)) := (f_X7_clear c_p0_length).bind fun r1 => (f_X0_write_6 FU x1 (0 : Int32) r1 c_p0_text)
set_option maxHeartbeats 4000000 in
set_option maxRecDepth 100000 in
theorem c_X0_write (G : Gx) (q_p0 : Nat) (q_p0_text : Nat) (q_p0_kinds : Nat) (q_p0_places : Nat) (q_p0_values : Nat) (c_p0_length : Int32) (c_p0_size : Int32) (c_p0_text : Nat → Int32) (x1 : Int32) (R : Int32 × (Nat → Int32)) (hf : f_X0_write x1 c_p0_length c_p0_text = some R) : vM G yX0_write cX0_write 3 (none) 5 109 [.ref q_p0, .int x1] (ws_X0_write G q_p0 q_p0_text q_p0_kinds q_p0_places q_p0_values c_p0_length c_p0_size c_p0_text) none (ws_X0_write G q_p0 q_p0_text q_p0_kinds q_p0_places q_p0_values R.1 c_p0_size R.2) := by
  refine vM_of (by decide +kernel) (Nat.le_of_ble_eq_true rfl) [(0, .ref q_p0), (1, .int x1)] rfl (fun C hC hQ => ?_)
  have hC : vH G C cX0_write RX0 3 (none) { frames := 5, cells := 0, slots := 0, locals := 109 } := hC
  rw [f_X0_write] at hf
  refine g_aload_n (pc := 0) 0 hC dX0_write_0 rfl ?_
  obtain ⟨r1, hr1, hf⟩ := bnd_s hf
  refine g_callVv (pc := 1) (st := []) (wc2 := (ws_X7_clear G q_p0 q_p0_text q_p0_kinds q_p0_places q_p0_values r1 c_p0_size)) (ws2 := (ws_X0_write G q_p0 q_p0_text q_p0_kinds q_p0_places q_p0_values r1 c_p0_size c_p0_text)) [0] 0 hC (c_X7_clear G q_p0 q_p0_text q_p0_kinds q_p0_places q_p0_values c_p0_length c_p0_size r1 hr1) mY_X7_clear mI_X7_clear W3_143 dX0_write_1 rfl rfl rfl rfl rfl rfl rfl rfl rfl ⟨Nat.le_of_ble_eq_true rfl, Nat.le_of_ble_eq_true rfl⟩ ⟨Nat.le_refl 0, Nat.le_refl 0⟩ (Nat.le_of_ble_eq_true rfl) ?_
  refine g_iconst (pc := 4) (0 : Int32) hC dX0_write_4 rfl ?_
  refine g_istore_n (pc := 5) [(2, .int (0 : Int32)), (0, .ref q_p0), (1, .int x1)] hC dX0_write_5 (Nat.le_of_ble_eq_true rfl) rfl ?_
  refine g_sub (lv2 := [(0, .ref q_p0), (1, .int x1), (2, .int (0 : Int32))]) [1, 2, 0] rfl ?_
  exact w_X0_write_6 hC q_p0 q_p0_text q_p0_kinds q_p0_places q_p0_values c_p0_size R hQ FU x1 (0 : Int32) r1 c_p0_text hf
/-! CoilBench$History.keep(LCoilBench$State;)LCoilBench$State; -/
abbrev ws_X1_keep (G : Gx) (q_this : Nat) (q_kept : Nat) (q_p1 : Nat) (q_p1_counts : Nat) (q_p1_positions : Nat) (q_slot : Nat) (q_slot_counts : Nat) (q_slot_positions : Nat) (c_next : Int32) (c_size : Int32) (c_kept : Nat → Option Nat) (c_p1_picked : Int64) (c_p1_keys : Int32) (c_p1_time : Int32) (c_p1_counts : Nat → Int32) (c_p1_positions : Nat → Int32) (c_slot_picked : Int64) (c_slot_keys : Int32) (c_slot_time : Int32) (c_slot_counts : Nat → Int32) (c_slot_positions : Nat → Int32) : va_W := [(q_this, eO 0 [.ref q_kept, .int c_next, .int c_size]), (q_kept, eS G 100 c_kept), (q_p1, eO 5 [.long c_p1_picked, .ref q_p1_counts, .ref q_p1_positions, .int c_p1_keys, .int c_p1_time]), (q_p1_counts, eI G 40 c_p1_counts), (q_p1_positions, eI G 40 c_p1_positions), (q_slot, eO 5 [.long c_slot_picked, .ref q_slot_counts, .ref q_slot_positions, .int c_slot_keys, .int c_slot_time]), (q_slot_counts, eI G 40 c_slot_counts), (q_slot_positions, eI G 40 c_slot_positions)]
theorem mY_X1_keep : vY yX1_keep cX1_keep 3 (some (.object "CoilBench$State")) 1 := ⟨W4_9, W1_9, ⟨by decide +kernel, by decide +kernel⟩, by decide +kernel⟩
theorem mI_X1_keep : vYi yX1_keep := ⟨W4_7, W4_8⟩
def f_X1_keep (c_next : Int32) (c_size : Int32) (c_p1_picked : Int64) (c_p1_keys : Int32) (c_p1_time : Int32) (c_p1_counts : Nat → Int32) (c_p1_positions : Nat → Int32) (c_slot_picked : Int64) (c_slot_keys : Int32) (c_slot_time : Int32) (c_slot_counts : Nat → Int32) (c_slot_positions : Nat → Int32) : Option (Int32 × Int32 × Int64 × Int32 × Int32 × (Nat → Int32) × (Nat → Int32)) := if bad c_next 100 = true then none else (f_X6_copy c_slot_picked c_slot_keys c_slot_time c_slot_counts c_slot_positions c_p1_picked c_p1_keys c_p1_time c_p1_counts c_p1_positions).bind fun r2 => vlet ((xrem (c_next + (1 : Int32)) (100 : Int32))) fun t3 => vlet ((xmin (100 : Int32) (c_size + (1 : Int32)))) fun t4 => some (t3, t4, r2.1, r2.2.1, r2.2.2.1, r2.2.2.2.1, r2.2.2.2.2)
set_option maxHeartbeats 4000000 in
set_option maxRecDepth 100000 in
theorem c_X1_keep (G : Gx) (q_this : Nat) (q_kept : Nat) (q_p1 : Nat) (q_p1_counts : Nat) (q_p1_positions : Nat) (q_slot : Nat) (q_slot_counts : Nat) (q_slot_positions : Nat) (c_next : Int32) (c_size : Int32) (c_kept : Nat → Option Nat) (c_p1_picked : Int64) (c_p1_keys : Int32) (c_p1_time : Int32) (c_p1_counts : Nat → Int32) (c_p1_positions : Nat → Int32) (c_slot_picked : Int64) (c_slot_keys : Int32) (c_slot_time : Int32) (c_slot_counts : Nat → Int32) (c_slot_positions : Nat → Int32) (R : Int32 × Int32 × Int64 × Int32 × Int32 × (Nat → Int32) × (Nat → Int32)) (hf : f_X1_keep c_next c_size c_p1_picked c_p1_keys c_p1_time c_p1_counts c_p1_positions c_slot_picked c_slot_keys c_slot_time c_slot_counts c_slot_positions = some R) (hs : c_kept c_next.toNatClampNeg = some q_slot) : vM G yX1_keep cX1_keep 3 (some (.object "CoilBench$State")) 2 47 [.ref q_this, .ref q_p1] (ws_X1_keep G q_this q_kept q_p1 q_p1_counts q_p1_positions q_slot q_slot_counts q_slot_positions c_next c_size c_kept c_p1_picked c_p1_keys c_p1_time c_p1_counts c_p1_positions c_slot_picked c_slot_keys c_slot_time c_slot_counts c_slot_positions) (some (.ref q_slot)) (ws_X1_keep G q_this q_kept q_p1 q_p1_counts q_p1_positions q_slot q_slot_counts q_slot_positions R.1 R.2.1 c_kept c_p1_picked c_p1_keys c_p1_time c_p1_counts c_p1_positions R.2.2.1 R.2.2.2.1 R.2.2.2.2.1 R.2.2.2.2.2.1 R.2.2.2.2.2.2) := by
  refine vM_of (by decide +kernel) (Nat.le_of_ble_eq_true rfl) [(0, .ref q_this), (1, .ref q_p1)] rfl (fun C hC hQ => ?_)
  have hC : vH G C cX1_keep RX1 3 (some (.object "CoilBench$State")) { frames := 2, cells := 0, slots := 0, locals := 47 } := hC
  rw [f_X1_keep] at hf
  refine g_aload_n (pc := 0) 0 hC dX1_keep_0 rfl ?_
  refine g_get (pc := 1) 0 0 hC inX1 dX1_keep_1 W2_76 rfl rfl (Nat.le_of_ble_eq_true rfl) rfl rfl ?_
  refine g_aload_n (pc := 4) 0 hC dX1_keep_4 rfl ?_
  refine g_get (pc := 5) 0 1 hC inX1 dX1_keep_5 W2_77 rfl rfl (Nat.le_of_ble_eq_true rfl) rfl rfl ?_
  obtain ⟨h1, hf⟩ := bad_s hf
  refine g_aaldS (pc := 8) 1 hC dX1_keep_8 rfl h1 hs ?_
  refine g_astore_n (pc := 9) [(2, .ref q_slot), (0, .ref q_this), (1, .ref q_p1)] hC dX1_keep_9 (Nat.le_of_ble_eq_true rfl) rfl ?_
  refine g_aload_n (pc := 10) 0 hC dX1_keep_10 rfl ?_
  refine g_aload_n (pc := 11) 2 hC dX1_keep_11 rfl ?_
  obtain ⟨r2, hr2, hf⟩ := bnd_s hf
  refine g_callVv (pc := 12) (st := []) (wc2 := (ws_X6_copy G q_slot q_slot_counts q_slot_positions q_p1 q_p1_counts q_p1_positions r2.1 r2.2.1 r2.2.2.1 r2.2.2.2.1 r2.2.2.2.2 c_p1_picked c_p1_keys c_p1_time c_p1_counts c_p1_positions)) (ws2 := (ws_X1_keep G q_this q_kept q_p1 q_p1_counts q_p1_positions q_slot q_slot_counts q_slot_positions c_next c_size c_kept c_p1_picked c_p1_keys c_p1_time c_p1_counts c_p1_positions r2.1 r2.2.1 r2.2.2.1 r2.2.2.2.1 r2.2.2.2.2)) [5, 6, 7, 2, 3, 4] 5 hC (c_X6_copy G q_slot q_slot_counts q_slot_positions q_p1 q_p1_counts q_p1_positions c_slot_picked c_slot_keys c_slot_time c_slot_counts c_slot_positions c_p1_picked c_p1_keys c_p1_time c_p1_counts c_p1_positions r2 hr2) mY_X6_copy mI_X6_copy W4_10 dX1_keep_12 rfl rfl rfl rfl rfl rfl rfl rfl rfl ⟨Nat.le_of_ble_eq_true rfl, Nat.le_of_ble_eq_true rfl⟩ ⟨Nat.le_refl 0, Nat.le_refl 0⟩ (Nat.le_of_ble_eq_true rfl) ?_
  refine g_aload_n (pc := 15) 1 hC dX1_keep_15 rfl ?_
  refine g_aload_n (pc := 16) 1 hC dX1_keep_16 rfl ?_
  refine g_get (pc := 17) 0 1 hC inX1 dX1_keep_17 W2_77 rfl rfl (Nat.le_of_ble_eq_true rfl) rfl rfl ?_
  refine g_iconst (pc := 20) (1 : Int32) hC dX1_keep_20 rfl ?_
  refine g_iadd (pc := 21) hC dX1_keep_21 ?_
  refine g_bipush (pc := 22) (100 : Int32) hC dX1_keep_22 rfl ?_
  refine g_irem (pc := 24) (by decide) hC dX1_keep_24 ?_
  obtain ⟨t3, et3, hf⟩ := vlet_s hf
  refine g_nmi et3 ?_
  refine g_put (pc := 25) (ws2 := (ws_X1_keep G q_this q_kept q_p1 q_p1_counts q_p1_positions q_slot q_slot_counts q_slot_positions t3 c_size c_kept c_p1_picked c_p1_keys c_p1_time c_p1_counts c_p1_positions r2.1 r2.2.1 r2.2.2.1 r2.2.2.2.1 r2.2.2.2.2)) 0 1 hC inX1 tyX1_ok nmX1 dX1_keep_25 W2_77 rfl rfl (Nat.le_of_ble_eq_true rfl) rfl rfl rfl rfl rfl (Nat.le_of_ble_eq_true rfl) rfl ?_
  refine g_aload_n (pc := 28) 1 hC dX1_keep_28 rfl ?_
  refine g_bipush (pc := 29) (100 : Int32) hC dX1_keep_29 rfl ?_
  refine g_aload_n (pc := 31) 1 hC dX1_keep_31 rfl ?_
  refine g_get (pc := 32) 0 2 hC inX1 dX1_keep_32 W2_78 rfl rfl (Nat.le_of_ble_eq_true rfl) rfl rfl ?_
  refine g_iconst (pc := 35) (1 : Int32) hC dX1_keep_35 rfl ?_
  refine g_iadd (pc := 36) hC dX1_keep_36 ?_
  refine g_mmin (pc := 37) hC W4_15 W2_156 W2_157 W1_12 dX1_keep_37 (Nat.le_of_ble_eq_true rfl) (Nat.le_of_ble_eq_true rfl) ⟨Nat.le_of_ble_eq_true rfl, Nat.le_of_ble_eq_true rfl⟩ ?_
  obtain ⟨t4, et4, hf⟩ := vlet_s hf
  refine g_nmi et4 ?_
  refine g_put (pc := 40) (ws2 := (ws_X1_keep G q_this q_kept q_p1 q_p1_counts q_p1_positions q_slot q_slot_counts q_slot_positions t3 t4 c_kept c_p1_picked c_p1_keys c_p1_time c_p1_counts c_p1_positions r2.1 r2.2.1 r2.2.2.1 r2.2.2.2.1 r2.2.2.2.2)) 0 2 hC inX1 tyX1_ok nmX1 dX1_keep_40 W2_78 rfl rfl (Nat.le_of_ble_eq_true rfl) rfl rfl rfl rfl rfl (Nat.le_of_ble_eq_true rfl) rfl ?_
  refine g_aload_n (pc := 43) 0 hC dX1_keep_43 rfl ?_
  obtain rfl := Option.some.inj hf
  exact g_aret (pc := 44) hC hQ dX1_keep_44
/-! java/lang/Long.bitCount(J)I -/
abbrev ws_J13_bitCount_95d88 (G : Gx)  : va_W := []
theorem mY_J13_bitCount_95d88 : vY yJ13_bitCount_95d88 cJ13_bitCount_95d88 2 (some .int) 1 := ⟨W4_108, W1_19, ⟨by decide +kernel, by decide +kernel⟩, by decide +kernel⟩
def f_J13_bitCount_95d88 (x0 : Int64) : Option (Int32) := vlet ((x0 - ((xlushr x0 (1 : Int32)) &&& (6148914691236517205 : Int64)))) fun t1 => vlet (((t1 &&& (3689348814741910323 : Int64)) + ((xlushr t1 (2 : Int32)) &&& (3689348814741910323 : Int64)))) fun t2 => vlet (((t2 + (xlushr t2 (4 : Int32))) &&& (1085102592571150095 : Int64))) fun t3 => vlet ((t3 + (xlushr t3 (8 : Int32)))) fun t4 => vlet ((t4 + (xlushr t4 (16 : Int32)))) fun t5 => vlet ((t5 + (xlushr t5 (32 : Int32)))) fun t6 => some (t6.toInt32 &&& (127 : Int32))
set_option maxHeartbeats 4000000 in
set_option maxRecDepth 100000 in
theorem c_J13_bitCount_95d88 (G : Gx)  (x0 : Int64) (R : Int32) (hf : f_J13_bitCount_95d88 x0 = some R) : vM G yJ13_bitCount_95d88 cJ13_bitCount_95d88 2 (some .int) 0 0 [.long x0] (ws_J13_bitCount_95d88 G) (some (.int R)) (ws_J13_bitCount_95d88 G) := by
  refine vM_of (by decide +kernel) (Nat.le_of_ble_eq_true rfl) [(0, .long x0)] rfl (fun C hC hQ => ?_)
  have hC : vH G C cJ13_bitCount_95d88 RJ13 2 (some .int) { frames := 0, cells := 0, slots := 0, locals := 0 } := hC
  rw [f_J13_bitCount_95d88] at hf
  refine g_lload_n (pc := 0) 0 hC dJ13_bitCount_95d88_0 rfl ?_
  refine g_lload_n (pc := 1) 0 hC dJ13_bitCount_95d88_1 rfl ?_
  refine g_iconst (pc := 2) (1 : Int32) hC dJ13_bitCount_95d88_2 rfl ?_
  refine g_lushr (pc := 3) hC dJ13_bitCount_95d88_3 ?_
  refine g_ldc2 (pc := 4) hC dJ13_bitCount_95d88_4 W4_109 ?_
  refine g_land (pc := 7) hC dJ13_bitCount_95d88_7 ?_
  refine g_lsub (pc := 8) hC dJ13_bitCount_95d88_8 ?_
  obtain ⟨t1, et1, hf⟩ := vlet_s hf
  refine g_nml et1 ?_
  refine g_lstore_n (pc := 9) [(0, .long t1)] hC dJ13_bitCount_95d88_9 (Nat.le_of_ble_eq_true rfl) rfl ?_
  refine g_lload_n (pc := 10) 0 hC dJ13_bitCount_95d88_10 rfl ?_
  refine g_ldc2 (pc := 11) hC dJ13_bitCount_95d88_11 W4_110 ?_
  refine g_land (pc := 14) hC dJ13_bitCount_95d88_14 ?_
  refine g_lload_n (pc := 15) 0 hC dJ13_bitCount_95d88_15 rfl ?_
  refine g_iconst (pc := 16) (2 : Int32) hC dJ13_bitCount_95d88_16 rfl ?_
  refine g_lushr (pc := 17) hC dJ13_bitCount_95d88_17 ?_
  refine g_ldc2 (pc := 18) hC dJ13_bitCount_95d88_18 W4_110 ?_
  refine g_land (pc := 21) hC dJ13_bitCount_95d88_21 ?_
  refine g_ladd (pc := 22) hC dJ13_bitCount_95d88_22 ?_
  obtain ⟨t2, et2, hf⟩ := vlet_s hf
  refine g_nml et2 ?_
  refine g_lstore_n (pc := 23) [(0, .long t2)] hC dJ13_bitCount_95d88_23 (Nat.le_of_ble_eq_true rfl) rfl ?_
  refine g_lload_n (pc := 24) 0 hC dJ13_bitCount_95d88_24 rfl ?_
  refine g_lload_n (pc := 25) 0 hC dJ13_bitCount_95d88_25 rfl ?_
  refine g_iconst (pc := 26) (4 : Int32) hC dJ13_bitCount_95d88_26 rfl ?_
  refine g_lushr (pc := 27) hC dJ13_bitCount_95d88_27 ?_
  refine g_ladd (pc := 28) hC dJ13_bitCount_95d88_28 ?_
  refine g_ldc2 (pc := 29) hC dJ13_bitCount_95d88_29 W4_111 ?_
  refine g_land (pc := 32) hC dJ13_bitCount_95d88_32 ?_
  obtain ⟨t3, et3, hf⟩ := vlet_s hf
  refine g_nml et3 ?_
  refine g_lstore_n (pc := 33) [(0, .long t3)] hC dJ13_bitCount_95d88_33 (Nat.le_of_ble_eq_true rfl) rfl ?_
  refine g_lload_n (pc := 34) 0 hC dJ13_bitCount_95d88_34 rfl ?_
  refine g_lload_n (pc := 35) 0 hC dJ13_bitCount_95d88_35 rfl ?_
  refine g_bipush (pc := 36) (8 : Int32) hC dJ13_bitCount_95d88_36 rfl ?_
  refine g_lushr (pc := 38) hC dJ13_bitCount_95d88_38 ?_
  refine g_ladd (pc := 39) hC dJ13_bitCount_95d88_39 ?_
  obtain ⟨t4, et4, hf⟩ := vlet_s hf
  refine g_nml et4 ?_
  refine g_lstore_n (pc := 40) [(0, .long t4)] hC dJ13_bitCount_95d88_40 (Nat.le_of_ble_eq_true rfl) rfl ?_
  refine g_lload_n (pc := 41) 0 hC dJ13_bitCount_95d88_41 rfl ?_
  refine g_lload_n (pc := 42) 0 hC dJ13_bitCount_95d88_42 rfl ?_
  refine g_bipush (pc := 43) (16 : Int32) hC dJ13_bitCount_95d88_43 rfl ?_
  refine g_lushr (pc := 45) hC dJ13_bitCount_95d88_45 ?_
  refine g_ladd (pc := 46) hC dJ13_bitCount_95d88_46 ?_
  obtain ⟨t5, et5, hf⟩ := vlet_s hf
  refine g_nml et5 ?_
  refine g_lstore_n (pc := 47) [(0, .long t5)] hC dJ13_bitCount_95d88_47 (Nat.le_of_ble_eq_true rfl) rfl ?_
  refine g_lload_n (pc := 48) 0 hC dJ13_bitCount_95d88_48 rfl ?_
  refine g_lload_n (pc := 49) 0 hC dJ13_bitCount_95d88_49 rfl ?_
  refine g_bipush (pc := 50) (32 : Int32) hC dJ13_bitCount_95d88_50 rfl ?_
  refine g_lushr (pc := 52) hC dJ13_bitCount_95d88_52 ?_
  refine g_ladd (pc := 53) hC dJ13_bitCount_95d88_53 ?_
  obtain ⟨t6, et6, hf⟩ := vlet_s hf
  refine g_nml et6 ?_
  refine g_lstore_n (pc := 54) [(0, .long t6)] hC dJ13_bitCount_95d88_54 (Nat.le_of_ble_eq_true rfl) rfl ?_
  refine g_lload_n (pc := 55) 0 hC dJ13_bitCount_95d88_55 rfl ?_
  refine g_l2i (pc := 56) hC dJ13_bitCount_95d88_56 ?_
  refine g_bipush (pc := 57) (127 : Int32) hC dJ13_bitCount_95d88_57 rfl ?_
  refine g_iand (pc := 59) hC dJ13_bitCount_95d88_59 ?_
  obtain rfl := Option.some.inj hf
  exact g_iret (pc := 60) hC hQ dJ13_bitCount_95d88_60
/-! CoilBench$History.takeBack(ILCoilBench$State;)Z -/
abbrev ws_X1_takeBack (G : Gx) (q_this : Nat) (q_kept : Nat) (q_p2 : Nat) (q_p2_counts : Nat) (q_p2_positions : Nat) (q_slot : Nat) (q_slot_counts : Nat) (q_slot_positions : Nat) (c_next : Int32) (c_size : Int32) (c_kept : Nat → Option Nat) (c_p2_picked : Int64) (c_p2_keys : Int32) (c_p2_time : Int32) (c_p2_counts : Nat → Int32) (c_p2_positions : Nat → Int32) (c_slot_picked : Int64) (c_slot_keys : Int32) (c_slot_time : Int32) (c_slot_counts : Nat → Int32) (c_slot_positions : Nat → Int32) : va_W := [(q_this, eO 0 [.ref q_kept, .int c_next, .int c_size]), (q_kept, eS G 100 c_kept), (q_p2, eO 5 [.long c_p2_picked, .ref q_p2_counts, .ref q_p2_positions, .int c_p2_keys, .int c_p2_time]), (q_p2_counts, eI G 40 c_p2_counts), (q_p2_positions, eI G 40 c_p2_positions), (q_slot, eO 5 [.long c_slot_picked, .ref q_slot_counts, .ref q_slot_positions, .int c_slot_keys, .int c_slot_time]), (q_slot_counts, eI G 40 c_slot_counts), (q_slot_positions, eI G 40 c_slot_positions)]
theorem mY_X1_takeBack : vY yX1_takeBack cX1_takeBack 3 (some .boolean) 2 := ⟨W4_143, W1_9, ⟨by decide +kernel, by decide +kernel⟩, by decide +kernel⟩
theorem mI_X1_takeBack : vYi yX1_takeBack := ⟨W4_141, W4_142⟩
def f_X1_takeBack (x1 : Int32) (c_next : Int32) (c_size : Int32) (c_p2_picked : Int64) (c_p2_keys : Int32) (c_p2_time : Int32) (c_p2_counts : Nat → Int32) (c_p2_positions : Nat → Int32) (c_slot_picked : Int64) (c_slot_keys : Int32) (c_slot_time : Int32) (c_slot_counts : Nat → Int32) (c_slot_positions : Nat → Int32) : Option (Int32 × Int32 × Int32 × Int64 × Int32 × Int32 × (Nat → Int32) × (Nat → Int32)) := if x1 < (1 : Int32) then (some ((0 : Int32), c_next, c_size, c_p2_picked, c_p2_keys, c_p2_time, c_p2_counts, c_p2_positions)) else (if x1 ≤ c_size then (vlet ((xrem ((c_next - x1) + (100 : Int32)) (100 : Int32))) fun t1 => vlet ((c_size - x1)) fun t2 => if bad t1 100 = true then none else (f_X6_copy c_p2_picked c_p2_keys c_p2_time c_p2_counts c_p2_positions c_slot_picked c_slot_keys c_slot_time c_slot_counts c_slot_positions).bind fun r4 => some ((1 : Int32), t1, t2, r4.1, r4.2.1, r4.2.2.1, r4.2.2.2.1, r4.2.2.2.2)) else (some ((0 : Int32), c_next, c_size, c_p2_picked, c_p2_keys, c_p2_time, c_p2_counts, c_p2_positions)))
set_option maxHeartbeats 4000000 in
set_option maxRecDepth 100000 in
theorem c_X1_takeBack (G : Gx) (q_this : Nat) (q_kept : Nat) (q_p2 : Nat) (q_p2_counts : Nat) (q_p2_positions : Nat) (q_slot : Nat) (q_slot_counts : Nat) (q_slot_positions : Nat) (c_next : Int32) (c_size : Int32) (c_kept : Nat → Option Nat) (c_p2_picked : Int64) (c_p2_keys : Int32) (c_p2_time : Int32) (c_p2_counts : Nat → Int32) (c_p2_positions : Nat → Int32) (c_slot_picked : Int64) (c_slot_keys : Int32) (c_slot_time : Int32) (c_slot_counts : Nat → Int32) (c_slot_positions : Nat → Int32) (x1 : Int32) (R : Int32 × Int32 × Int32 × Int64 × Int32 × Int32 × (Nat → Int32) × (Nat → Int32)) (hf : f_X1_takeBack x1 c_next c_size c_p2_picked c_p2_keys c_p2_time c_p2_counts c_p2_positions c_slot_picked c_slot_keys c_slot_time c_slot_counts c_slot_positions = some R) (hs : c_kept (xrem (c_next - x1 + (100 : Int32)) (100 : Int32)).toNatClampNeg = some q_slot) : vM G yX1_takeBack cX1_takeBack 3 (some .boolean) 2 47 [.ref q_this, .int x1, .ref q_p2] (ws_X1_takeBack G q_this q_kept q_p2 q_p2_counts q_p2_positions q_slot q_slot_counts q_slot_positions c_next c_size c_kept c_p2_picked c_p2_keys c_p2_time c_p2_counts c_p2_positions c_slot_picked c_slot_keys c_slot_time c_slot_counts c_slot_positions) (some (.int R.1)) (ws_X1_takeBack G q_this q_kept q_p2 q_p2_counts q_p2_positions q_slot q_slot_counts q_slot_positions R.2.1 R.2.2.1 c_kept R.2.2.2.1 R.2.2.2.2.1 R.2.2.2.2.2.1 R.2.2.2.2.2.2.1 R.2.2.2.2.2.2.2 c_slot_picked c_slot_keys c_slot_time c_slot_counts c_slot_positions) := by
  refine vM_of (by decide +kernel) (Nat.le_of_ble_eq_true rfl) [(0, .ref q_this), (1, .int x1), (2, .ref q_p2)] rfl (fun C hC hQ => ?_)
  have hC : vH G C cX1_takeBack RX1 3 (some .boolean) { frames := 2, cells := 0, slots := 0, locals := 47 } := hC
  rw [f_X1_takeBack] at hf
  refine g_iload_n (pc := 0) 1 hC dX1_takeBack_0 rfl ?_
  refine g_iconst (pc := 1) (1 : Int32) hC dX1_takeBack_1 rfl ?_
  refine g_icmp_lt (pc := 2) 13 hC dX1_takeBack_2 (by decide) (fun hb => ?_) (fun hb => ?_)
  · replace hf := ite_t hf hb
    refine g_iconst (pc := 13) (0 : Int32) hC dX1_takeBack_13 rfl ?_
    obtain rfl := Option.some.inj hf
    exact g_zret (pc := 14) hC rfl hQ dX1_takeBack_14
  · replace hf := ite_f hf hb
    refine g_iload_n (pc := 5) 1 hC dX1_takeBack_5 rfl ?_
    refine g_aload_n (pc := 6) 0 hC dX1_takeBack_6 rfl ?_
    refine g_get (pc := 7) 0 2 hC inX1 dX1_takeBack_7 W2_78 rfl rfl (Nat.le_of_ble_eq_true rfl) rfl rfl ?_
    refine g_icmp_le (pc := 10) 15 hC dX1_takeBack_10 (by decide) (fun hb => ?_) (fun hb => ?_)
    · replace hf := ite_t hf hb
      refine g_aload_n (pc := 15) 0 hC dX1_takeBack_15 rfl ?_
      refine g_aload_n (pc := 16) 0 hC dX1_takeBack_16 rfl ?_
      refine g_get (pc := 17) 0 1 hC inX1 dX1_takeBack_17 W2_77 rfl rfl (Nat.le_of_ble_eq_true rfl) rfl rfl ?_
      refine g_iload_n (pc := 20) 1 hC dX1_takeBack_20 rfl ?_
      refine g_isub (pc := 21) hC dX1_takeBack_21 ?_
      refine g_bipush (pc := 22) (100 : Int32) hC dX1_takeBack_22 rfl ?_
      refine g_iadd (pc := 24) hC dX1_takeBack_24 ?_
      refine g_bipush (pc := 25) (100 : Int32) hC dX1_takeBack_25 rfl ?_
      refine g_irem (pc := 27) (by decide) hC dX1_takeBack_27 ?_
      obtain ⟨t1, et1, hf⟩ := vlet_s hf
      refine g_nmi et1 ?_
      refine g_put (pc := 28) (ws2 := (ws_X1_takeBack G q_this q_kept q_p2 q_p2_counts q_p2_positions q_slot q_slot_counts q_slot_positions t1 c_size c_kept c_p2_picked c_p2_keys c_p2_time c_p2_counts c_p2_positions c_slot_picked c_slot_keys c_slot_time c_slot_counts c_slot_positions)) 0 1 hC inX1 tyX1_ok nmX1 dX1_takeBack_28 W2_77 rfl rfl (Nat.le_of_ble_eq_true rfl) rfl rfl rfl rfl rfl (Nat.le_of_ble_eq_true rfl) rfl ?_
      refine g_aload_n (pc := 31) 0 hC dX1_takeBack_31 rfl ?_
      refine g_dup (pc := 32) rfl hC dX1_takeBack_32 ?_
      refine g_get (pc := 33) 0 2 hC inX1 dX1_takeBack_33 W2_78 rfl rfl (Nat.le_of_ble_eq_true rfl) rfl rfl ?_
      refine g_iload_n (pc := 36) 1 hC dX1_takeBack_36 rfl ?_
      refine g_isub (pc := 37) hC dX1_takeBack_37 ?_
      obtain ⟨t2, et2, hf⟩ := vlet_s hf
      refine g_nmi et2 ?_
      refine g_put (pc := 38) (ws2 := (ws_X1_takeBack G q_this q_kept q_p2 q_p2_counts q_p2_positions q_slot q_slot_counts q_slot_positions t1 t2 c_kept c_p2_picked c_p2_keys c_p2_time c_p2_counts c_p2_positions c_slot_picked c_slot_keys c_slot_time c_slot_counts c_slot_positions)) 0 2 hC inX1 tyX1_ok nmX1 dX1_takeBack_38 W2_78 rfl rfl (Nat.le_of_ble_eq_true rfl) rfl rfl rfl rfl rfl (Nat.le_of_ble_eq_true rfl) rfl ?_
      refine g_aload_n (pc := 41) 2 hC dX1_takeBack_41 rfl ?_
      refine g_aload_n (pc := 42) 0 hC dX1_takeBack_42 rfl ?_
      refine g_get (pc := 43) 0 0 hC inX1 dX1_takeBack_43 W2_76 rfl rfl (Nat.le_of_ble_eq_true rfl) rfl rfl ?_
      refine g_aload_n (pc := 46) 0 hC dX1_takeBack_46 rfl ?_
      refine g_get (pc := 47) 0 1 hC inX1 dX1_takeBack_47 W2_77 rfl rfl (Nat.le_of_ble_eq_true rfl) rfl rfl ?_
      obtain ⟨h3, hf⟩ := bad_s hf
      refine g_aaldS (pc := 50) 1 hC dX1_takeBack_50 rfl h3 (by rw [et1]; exact hs) ?_
      obtain ⟨r4, hr4, hf⟩ := bnd_s hf
      refine g_callVv (pc := 51) (st := []) (wc2 := (ws_X6_copy G q_p2 q_p2_counts q_p2_positions q_slot q_slot_counts q_slot_positions r4.1 r4.2.1 r4.2.2.1 r4.2.2.2.1 r4.2.2.2.2 c_slot_picked c_slot_keys c_slot_time c_slot_counts c_slot_positions)) (ws2 := (ws_X1_takeBack G q_this q_kept q_p2 q_p2_counts q_p2_positions q_slot q_slot_counts q_slot_positions t1 t2 c_kept r4.1 r4.2.1 r4.2.2.1 r4.2.2.2.1 r4.2.2.2.2 c_slot_picked c_slot_keys c_slot_time c_slot_counts c_slot_positions)) [2, 3, 4, 5, 6, 7] 2 hC (c_X6_copy G q_p2 q_p2_counts q_p2_positions q_slot q_slot_counts q_slot_positions c_p2_picked c_p2_keys c_p2_time c_p2_counts c_p2_positions c_slot_picked c_slot_keys c_slot_time c_slot_counts c_slot_positions r4 hr4) mY_X6_copy mI_X6_copy W4_10 dX1_takeBack_51 rfl rfl rfl rfl rfl rfl rfl rfl rfl ⟨Nat.le_of_ble_eq_true rfl, Nat.le_of_ble_eq_true rfl⟩ ⟨Nat.le_refl 0, Nat.le_refl 0⟩ (Nat.le_of_ble_eq_true rfl) ?_
      refine g_iconst (pc := 54) (1 : Int32) hC dX1_takeBack_54 rfl ?_
      obtain rfl := Option.some.inj hf
      exact g_zret (pc := 55) hC rfl hQ dX1_takeBack_55
    · replace hf := ite_f hf hb
      refine g_iconst (pc := 13) (0 : Int32) hC dX1_takeBack_13 rfl ?_
      obtain rfl := Option.some.inj hf
      exact g_zret (pc := 14) hC rfl hQ dX1_takeBack_14
