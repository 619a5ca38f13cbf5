/-! CoilBench$Tokens.copy([BI)V -/
abbrev ws_X7_copy (G : Gx) (q_this : Nat) (q_text : Nat) (q_p1 : Nat) (q_kinds : Nat) (q_places : Nat) (q_values : Nat) (c_length : Int32) (c_size : Int32) (c_text : Nat → Int32) (c_p1 : Nat → Int32) : va_W := [(q_this, eO 6 [.ref q_text, .int c_length, .ref q_kinds, .ref q_places, .ref q_values, .int c_size]), (q_text, eB G 4000 c_text), (q_p1, eB G 4000 c_p1)]
theorem mY_X7_copy : vY yX7_copy cX7_copy 3 (none) 2 := ⟨W2_154, W1_3, ⟨by decide +kernel, by decide +kernel⟩, by decide +kernel⟩
theorem mI_X7_copy : vYi yX7_copy := ⟨W2_152, W2_153⟩
def f_X7_copy (x2 : Int32) (c_length : Int32) (c_text : Nat → Int32) (c_p1 : Nat → Int32) : Option (Int32 × (Nat → Int32)) := vlet ((xmax (0 : Int32) (xmin x2 (xmin (4000 : Int32) (4000 : Int32))))) fun t1 => if cpyok (0 : Int32) (0 : Int32) t1 4000 4000 = true then (if (∀ i, i < t1.toNatClampNeg → xi2b (c_p1 ((0 : Int32).toNatClampNeg + i)) = c_p1 ((0 : Int32).toNatClampNeg + i)) then (vlet (va_cpy c_p1 c_text (0 : Int32).toNatClampNeg (0 : Int32).toNatClampNeg t1.toNatClampNeg) fun w3 => some (t1, w3)) else none) else none
set_option maxHeartbeats 4000000 in
set_option maxRecDepth 100000 in
theorem c_X7_copy (G : Gx) (q_this : Nat) (q_text : Nat) (q_p1 : Nat) (q_kinds : Nat) (q_places : Nat) (q_values : Nat) (c_length : Int32) (c_size : Int32) (c_text : Nat → Int32) (c_p1 : Nat → Int32) (x2 : Int32) (R : Int32 × (Nat → Int32)) (hf : f_X7_copy x2 c_length c_text c_p1 = some R) : vM G yX7_copy cX7_copy 3 (none) 1 26 [.ref q_this, .ref q_p1, .int x2] (ws_X7_copy G q_this q_text q_p1 q_kinds q_places q_values c_length c_size c_text c_p1) none (ws_X7_copy G q_this q_text q_p1 q_kinds q_places q_values R.1 c_size R.2 c_p1) := by
  refine vM_of (by decide +kernel) (Nat.le_of_ble_eq_true rfl) [(0, .ref q_this), (1, .ref q_p1), (2, .int x2)] rfl (fun C hC hQ => ?_)
  have hC : vH G C cX7_copy RX7 3 (none) { frames := 1, cells := 0, slots := 0, locals := 26 } := hC
  rw [f_X7_copy] at hf
  refine g_aload_n (pc := 0) 0 hC dX7_copy_0 rfl ?_
  refine g_iconst (pc := 1) (0 : Int32) hC dX7_copy_1 rfl ?_
  refine g_iload_n (pc := 2) 2 hC dX7_copy_2 rfl ?_
  refine g_aload_n (pc := 3) 1 hC dX7_copy_3 rfl ?_
  refine g_alen (pc := 4) (v := (4000 : Int32)) 2 1 hC dX7_copy_4 rfl rfl rfl ?_
  refine g_sipush (pc := 5) (4000 : Int32) hC dX7_copy_5 rfl ?_
  refine g_mmin (pc := 8) hC W2_155 W2_156 W2_157 W1_12 dX7_copy_8 (Nat.le_of_ble_eq_true rfl) (Nat.le_of_ble_eq_true rfl) ⟨Nat.le_of_ble_eq_true rfl, Nat.le_of_ble_eq_true rfl⟩ ?_
  refine g_mmin (pc := 11) hC W2_155 W2_156 W2_157 W1_12 dX7_copy_11 (Nat.le_of_ble_eq_true rfl) (Nat.le_of_ble_eq_true rfl) ⟨Nat.le_of_ble_eq_true rfl, Nat.le_of_ble_eq_true rfl⟩ ?_
  refine g_mmax (pc := 14) hC W2_158 W2_159 W2_160 W1_12 dX7_copy_14 (Nat.le_of_ble_eq_true rfl) (Nat.le_of_ble_eq_true rfl) ⟨Nat.le_of_ble_eq_true rfl, Nat.le_of_ble_eq_true rfl⟩ ?_
  obtain ⟨t1, et1, hf⟩ := vlet_s hf
  refine g_nmi et1 ?_
  refine g_put (pc := 17) (ws2 := (ws_X7_copy G q_this q_text q_p1 q_kinds q_places q_values t1 c_size c_text c_p1)) 0 1 hC inX7 tyX7_ok nmX7 dX7_copy_17 W1_41 rfl rfl (Nat.le_of_ble_eq_true rfl) rfl rfl rfl rfl rfl (Nat.le_of_ble_eq_true rfl) rfl ?_
  refine g_aload_n (pc := 20) 1 hC dX7_copy_20 rfl ?_
  refine g_iconst (pc := 21) (0 : Int32) hC dX7_copy_21 rfl ?_
  refine g_aload_n (pc := 22) 0 hC dX7_copy_22 rfl ?_
  refine g_get (pc := 23) 0 0 hC inX7 dX7_copy_23 W1_40 rfl rfl (Nat.le_of_ble_eq_true rfl) rfl rfl ?_
  refine g_iconst (pc := 26) (0 : Int32) hC dX7_copy_26 rfl ?_
  refine g_aload_n (pc := 27) 0 hC dX7_copy_27 rfl ?_
  refine g_get (pc := 28) 0 1 hC inX7 dX7_copy_28 W1_41 rfl rfl (Nat.le_of_ble_eq_true rfl) rfl rfl ?_
  obtain ⟨⟨h2a, h2b, h2c, h2d, h2e⟩, hf⟩ := cpy_s hf
  obtain ⟨h2f, hf⟩ := ite_p hf
  obtain ⟨w3, ew3, hf⟩ := vlet_s hf
  refine g_copyB (pc := 31) (ws2 := (ws_X7_copy G q_this q_text q_p1 q_kinds q_places q_values t1 c_size w3 c_p1)) 2 1 hC W2_161 acN W2_162 W1_13 dX7_copy_31 rfl rfl h2a h2b h2c h2d h2e h2f (Nat.le_of_ble_eq_true rfl) (Nat.le_of_ble_eq_true rfl) ew3 rfl ?_
  obtain rfl := Option.some.inj hf
  exact g_vret (pc := 34) hC hQ dX7_copy_34
/-! CoilBench$Tokens.isDigit(I)Z -/
abbrev ws_X7_isDigit (G : Gx)  : va_W := []
theorem mY_X7_isDigit : vY yX7_isDigit cX7_isDigit 1 (some .boolean) 1 := ⟨W2_179, W1_3, ⟨by decide +kernel, by decide +kernel⟩, by decide +kernel⟩
def f_X7_isDigit (x0 : Int32) : Option (Int32) := if x0 < (48 : Int32) then (some (0 : Int32)) else (if (57 : Int32) < x0 then (some (0 : Int32)) else (some (1 : Int32)))
set_option maxHeartbeats 4000000 in
set_option maxRecDepth 100000 in
theorem c_X7_isDigit (G : Gx)  (x0 : Int32) (R : Int32) (hf : f_X7_isDigit x0 = some R) : vM G yX7_isDigit cX7_isDigit 1 (some .boolean) 0 0 [.int x0] (ws_X7_isDigit G) (some (.int R)) (ws_X7_isDigit G) := by
  refine vM_of (by decide +kernel) (Nat.le_of_ble_eq_true rfl) [(0, .int x0)] rfl (fun C hC hQ => ?_)
  have hC : vH G C cX7_isDigit RX7 1 (some .boolean) { frames := 0, cells := 0, slots := 0, locals := 0 } := hC
  rw [f_X7_isDigit] at hf
  refine g_iload_n (pc := 0) 0 hC dX7_isDigit_0 rfl ?_
  refine g_bipush (pc := 1) (48 : Int32) hC dX7_isDigit_1 rfl ?_
  refine g_icmp_lt (pc := 3) 16 hC dX7_isDigit_3 (by decide) (fun hb => ?_) (fun hb => ?_)
  · replace hf := ite_t hf hb
    refine g_iconst (pc := 16) (0 : Int32) hC dX7_isDigit_16 rfl ?_
    obtain rfl := Option.some.inj hf
    exact g_zret (pc := 17) hC rfl hQ dX7_isDigit_17
  · replace hf := ite_f hf hb
    refine g_iload_n (pc := 6) 0 hC dX7_isDigit_6 rfl ?_
    refine g_bipush (pc := 7) (57 : Int32) hC dX7_isDigit_7 rfl ?_
    refine g_icmp_gt (pc := 9) 16 hC dX7_isDigit_9 (by decide) (fun hb => ?_) (fun hb => ?_)
    · replace hf := ite_t hf hb
      refine g_iconst (pc := 16) (0 : Int32) hC dX7_isDigit_16 rfl ?_
      obtain rfl := Option.some.inj hf
      exact g_zret (pc := 17) hC rfl hQ dX7_isDigit_17
    · replace hf := ite_f hf hb
      refine g_iconst (pc := 12) (1 : Int32) hC dX7_isDigit_12 rfl ?_
      refine g_goto (pc := 13) 17 hC dX7_isDigit_13 (by decide) ?_
      obtain rfl := Option.some.inj hf
      exact g_zret (pc := 17) hC rfl hQ dX7_isDigit_17
/-! CoilBench$Tokens.isLetter(I)Z -/
abbrev ws_X7_isLetter (G : Gx)  : va_W := []
theorem mY_X7_isLetter : vY yX7_isLetter cX7_isLetter 1 (some .boolean) 1 := ⟨W2_182, W1_3, ⟨by decide +kernel, by decide +kernel⟩, by decide +kernel⟩
def f_X7_isLetter_24 : Option (Int32) := some (1 : Int32)
set_option maxHeartbeats 4000000 in
set_option maxRecDepth 100000 in
theorem w_X7_isLetter_24 {G : Gx} {C : Cx} (hC : vH G C cX7_isLetter RX7 1 (some .boolean) { frames := 0, cells := 0, slots := 0, locals := 0 })  (R : Int32) (hQ : vR G C 0 0 (some (.int R)) (ws_X7_isLetter G)) (hf : f_X7_isLetter_24 = some R) : vG G C 0 0 24 [] [] (ws_X7_isLetter G) := by
  rw [f_X7_isLetter_24] at hf
  refine g_iconst (pc := 24) (1 : Int32) hC dX7_isLetter_24 rfl ?_
  refine g_goto (pc := 25) 29 hC dX7_isLetter_25 (by decide) ?_
  obtain rfl := Option.some.inj hf
  exact g_zret (pc := 29) hC rfl hQ dX7_isLetter_29
def f_X7_isLetter_12 (x0 : Int32) : Option (Int32) := if x0 < (65 : Int32) then (some (0 : Int32)) else (if (90 : Int32) < x0 then (some (0 : Int32)) else ((f_X7_isLetter_24)))
set_option maxHeartbeats 4000000 in
set_option maxRecDepth 100000 in
theorem w_X7_isLetter_12 {G : Gx} {C : Cx} (hC : vH G C cX7_isLetter RX7 1 (some .boolean) { frames := 0, cells := 0, slots := 0, locals := 0 })  (R : Int32) (hQ : vR G C 0 0 (some (.int R)) (ws_X7_isLetter G)) (x0 : Int32) (hf : f_X7_isLetter_12 x0 = some R) : vG G C 0 0 12 [(0, .int x0)] [] (ws_X7_isLetter G) := by
  rw [f_X7_isLetter_12] at hf
  refine g_iload_n (pc := 12) 0 hC dX7_isLetter_12 rfl ?_
  refine g_bipush (pc := 13) (65 : Int32) hC dX7_isLetter_13 rfl ?_
  refine g_icmp_lt (pc := 15) 28 hC dX7_isLetter_15 (by decide) (fun hb => ?_) (fun hb => ?_)
  · replace hf := ite_t hf hb
    refine g_iconst (pc := 28) (0 : Int32) hC dX7_isLetter_28 rfl ?_
    obtain rfl := Option.some.inj hf
    exact g_zret (pc := 29) hC rfl hQ dX7_isLetter_29
  · replace hf := ite_f hf hb
    refine g_iload_n (pc := 18) 0 hC dX7_isLetter_18 rfl ?_
    refine g_bipush (pc := 19) (90 : Int32) hC dX7_isLetter_19 rfl ?_
    refine g_icmp_gt (pc := 21) 28 hC dX7_isLetter_21 (by decide) (fun hb => ?_) (fun hb => ?_)
    · replace hf := ite_t hf hb
      refine g_iconst (pc := 28) (0 : Int32) hC dX7_isLetter_28 rfl ?_
      obtain rfl := Option.some.inj hf
      exact g_zret (pc := 29) hC rfl hQ dX7_isLetter_29
    · replace hf := ite_f hf hb
      refine g_sub (lv2 := []) [] rfl ?_
      exact w_X7_isLetter_24 hC R hQ hf
def f_X7_isLetter (x0 : Int32) : Option (Int32) := if x0 < (97 : Int32) then ((f_X7_isLetter_12 x0)) else (if x0 ≤ (122 : Int32) then ((f_X7_isLetter_24)) else ((f_X7_isLetter_12 x0)))
set_option maxHeartbeats 4000000 in
set_option maxRecDepth 100000 in
theorem c_X7_isLetter (G : Gx)  (x0 : Int32) (R : Int32) (hf : f_X7_isLetter x0 = some R) : vM G yX7_isLetter cX7_isLetter 1 (some .boolean) 0 0 [.int x0] (ws_X7_isLetter G) (some (.int R)) (ws_X7_isLetter G) := by
  refine vM_of (by decide +kernel) (Nat.le_of_ble_eq_true rfl) [(0, .int x0)] rfl (fun C hC hQ => ?_)
  have hC : vH G C cX7_isLetter RX7 1 (some .boolean) { frames := 0, cells := 0, slots := 0, locals := 0 } := hC
  rw [f_X7_isLetter] at hf
  refine g_iload_n (pc := 0) 0 hC dX7_isLetter_0 rfl ?_
  refine g_bipush (pc := 1) (97 : Int32) hC dX7_isLetter_1 rfl ?_
  refine g_icmp_lt (pc := 3) 12 hC dX7_isLetter_3 (by decide) (fun hb => ?_) (fun hb => ?_)
  · replace hf := ite_t hf hb
    exact w_X7_isLetter_12 hC R hQ x0 hf
  · replace hf := ite_f hf hb
    refine g_iload_n (pc := 6) 0 hC dX7_isLetter_6 rfl ?_
    refine g_bipush (pc := 7) (122 : Int32) hC dX7_isLetter_7 rfl ?_
    refine g_icmp_le (pc := 9) 24 hC dX7_isLetter_9 (by decide) (fun hb => ?_) (fun hb => ?_)
    · replace hf := ite_t hf hb
      refine g_sub (lv2 := []) [] rfl ?_
      exact w_X7_isLetter_24 hC R hQ hf
    · replace hf := ite_f hf hb
      exact w_X7_isLetter_12 hC R hQ x0 hf
/-! CoilBench$Tokens.goesOn(I)Z -/
abbrev ws_X7_goesOn (G : Gx) (q_this : Nat) (q_kinds : Nat) (q_text : Nat) (q_places : Nat) (q_values : Nat) (c_length : Int32) (c_size : Int32) (c_kinds : Nat → Int32) : va_W := [(q_this, eO 6 [.ref q_text, .int c_length, .ref q_kinds, .ref q_places, .ref q_values, .int c_size]), (q_kinds, eI G 4001 c_kinds)]
theorem mY_X7_goesOn : vY yX7_goesOn cX7_goesOn 2 (some .boolean) 1 := ⟨W2_176, W1_3, ⟨by decide +kernel, by decide +kernel⟩, by decide +kernel⟩
theorem mI_X7_goesOn : vYi yX7_goesOn := ⟨W2_175, (tb_in (tb_s (q := (yX7_goesOn, 6)) (by decide +kernel)) rfl)⟩
def f_X7_goesOn_36 (c_size : Int32) (c_kinds : Nat → Int32) : Option (Int32) := some (1 : Int32)
set_option maxHeartbeats 4000000 in
set_option maxRecDepth 100000 in
theorem w_X7_goesOn_36 {G : Gx} {C : Cx} (hC : vH G C cX7_goesOn RX7 2 (some .boolean) { frames := 1, cells := 0, slots := 0, locals := 20 }) (q_this : Nat) (q_kinds : Nat) (q_text : Nat) (q_places : Nat) (q_values : Nat) (c_length : Int32) (c_size : Int32) (c_kinds : Nat → Int32) (R : Int32) (hQ : vR G C 0 0 (some (.int R)) (ws_X7_goesOn G q_this q_kinds q_text q_places q_values c_length c_size c_kinds)) (hf : f_X7_goesOn_36 c_size c_kinds = some R) : vG G C 0 0 36 [] [] (ws_X7_goesOn G q_this q_kinds q_text q_places q_values c_length c_size c_kinds) := by
  rw [f_X7_goesOn_36] at hf
  refine g_iconst (pc := 36) (1 : Int32) hC dX7_goesOn_36 rfl ?_
  refine g_goto (pc := 37) 41 hC dX7_goesOn_37 (by decide) ?_
  obtain rfl := Option.some.inj hf
  exact g_zret (pc := 41) hC rfl hQ dX7_goesOn_41
def f_X7_goesOn (x1 : Int32) (c_size : Int32) (c_kinds : Nat → Int32) : Option (Int32) := (f_X7_isDigit x1).bind fun r1 => if r1 = 0 then ((f_X7_isLetter x1).bind fun r2 => if r2 = 0 then (some (0 : Int32)) else (if c_size ≤ 0 then (some (0 : Int32)) else (if bad (c_size - (1 : Int32)) 4001 = true then none else if (c_kinds (c_size - (1 : Int32)).toNatClampNeg) = (1 : Int32) then ((f_X7_goesOn_36 c_size c_kinds)) else (some (0 : Int32))))) else ((f_X7_goesOn_36 c_size c_kinds))
set_option maxHeartbeats 4000000 in
set_option maxRecDepth 100000 in
theorem c_X7_goesOn (G : Gx) (q_this : Nat) (q_kinds : Nat) (q_text : Nat) (q_places : Nat) (q_values : Nat) (c_length : Int32) (c_size : Int32) (c_kinds : Nat → Int32) (x1 : Int32) (R : Int32) (hf : f_X7_goesOn x1 c_size c_kinds = some R) : vM G yX7_goesOn cX7_goesOn 2 (some .boolean) 1 20 [.ref q_this, .int x1] (ws_X7_goesOn G q_this q_kinds q_text q_places q_values c_length c_size c_kinds) (some (.int R)) (ws_X7_goesOn G q_this q_kinds q_text q_places q_values c_length c_size c_kinds) := by
  refine vM_of (by decide +kernel) (Nat.le_of_ble_eq_true rfl) [(0, .ref q_this), (1, .int x1)] rfl (fun C hC hQ => ?_)
  have hC : vH G C cX7_goesOn RX7 2 (some .boolean) { frames := 1, cells := 0, slots := 0, locals := 20 } := hC
  rw [f_X7_goesOn] at hf
  refine g_iload_n (pc := 0) 1 hC dX7_goesOn_0 rfl ?_
  obtain ⟨r1, hr1, hf⟩ := bnd_s hf
  refine g_callSi (pc := 1) (st := []) (wc2 := (ws_X7_isDigit G)) (ws2 := (ws_X7_goesOn G q_this q_kinds q_text q_places q_values c_length c_size c_kinds)) [] hC (c_X7_isDigit G x1 r1 hr1) mY_X7_isDigit W2_178 W2_177 dX7_goesOn_1 rfl rfl rfl rfl rfl rfl ⟨Nat.le_of_ble_eq_true rfl, Nat.le_of_ble_eq_true rfl⟩ ⟨Nat.le_refl 0, Nat.le_refl 0⟩ (Nat.le_of_ble_eq_true rfl) ?_
  refine g_if_ne (pc := 4) 36 hC dX7_goesOn_4 (by decide) (fun hb => ?_) (fun hb => ?_)
  · replace hf := ite_f hf hb
    refine g_sub (lv2 := []) [] rfl ?_
    exact w_X7_goesOn_36 hC q_this q_kinds q_text q_places q_values c_length c_size c_kinds R hQ hf
  · replace hf := ite_t hf hb
    refine g_iload_n (pc := 7) 1 hC dX7_goesOn_7 rfl ?_
    obtain ⟨r2, hr2, hf⟩ := bnd_s hf
    refine g_callSi (pc := 8) (st := []) (wc2 := (ws_X7_isLetter G)) (ws2 := (ws_X7_goesOn G q_this q_kinds q_text q_places q_values c_length c_size c_kinds)) [] hC (c_X7_isLetter G x1 r2 hr2) mY_X7_isLetter W2_181 W2_180 dX7_goesOn_8 rfl rfl rfl rfl rfl rfl ⟨Nat.le_of_ble_eq_true rfl, Nat.le_of_ble_eq_true rfl⟩ ⟨Nat.le_refl 0, Nat.le_refl 0⟩ (Nat.le_of_ble_eq_true rfl) ?_
    refine g_if_eq (pc := 11) 40 hC dX7_goesOn_11 (by decide) (fun hb => ?_) (fun hb => ?_)
    · replace hf := ite_t hf hb
      refine g_iconst (pc := 40) (0 : Int32) hC dX7_goesOn_40 rfl ?_
      obtain rfl := Option.some.inj hf
      exact g_zret (pc := 41) hC rfl hQ dX7_goesOn_41
    · replace hf := ite_f hf hb
      refine g_aload_n (pc := 14) 0 hC dX7_goesOn_14 rfl ?_
      refine g_get (pc := 15) 0 5 hC inX7 dX7_goesOn_15 W1_48 rfl rfl (Nat.le_of_ble_eq_true rfl) rfl rfl ?_
      refine g_if_le (pc := 18) 40 hC dX7_goesOn_18 (by decide) (fun hb => ?_) (fun hb => ?_)
      · replace hf := ite_t hf hb
        refine g_iconst (pc := 40) (0 : Int32) hC dX7_goesOn_40 rfl ?_
        obtain rfl := Option.some.inj hf
        exact g_zret (pc := 41) hC rfl hQ dX7_goesOn_41
      · replace hf := ite_f hf hb
        refine g_aload_n (pc := 21) 0 hC dX7_goesOn_21 rfl ?_
        refine g_get (pc := 22) 0 2 hC inX7 dX7_goesOn_22 W1_42 rfl rfl (Nat.le_of_ble_eq_true rfl) rfl rfl ?_
        refine g_aload_n (pc := 25) 0 hC dX7_goesOn_25 rfl ?_
        refine g_get (pc := 26) 0 5 hC inX7 dX7_goesOn_26 W1_48 rfl rfl (Nat.le_of_ble_eq_true rfl) rfl rfl ?_
        refine g_iconst (pc := 29) (1 : Int32) hC dX7_goesOn_29 rfl ?_
        refine g_isub (pc := 30) hC dX7_goesOn_30 ?_
        obtain ⟨h3, hf⟩ := bad_s hf
        refine g_iald (pc := 31) 1 hC dX7_goesOn_31 rfl h3 ?_
        refine g_iconst (pc := 32) (1 : Int32) hC dX7_goesOn_32 rfl ?_
        refine g_icmp_ne (pc := 33) 40 hC dX7_goesOn_33 (by decide) (fun hb => ?_) (fun hb => ?_)
        · replace hf := ite_f hf hb
          refine g_iconst (pc := 40) (0 : Int32) hC dX7_goesOn_40 rfl ?_
          obtain rfl := Option.some.inj hf
          exact g_zret (pc := 41) hC rfl hQ dX7_goesOn_41
        · replace hf := ite_t hf hb
          refine g_sub (lv2 := []) [] rfl ?_
          exact w_X7_goesOn_36 hC q_this q_kinds q_text q_places q_values c_length c_size c_kinds R hQ hf
/-! CoilBench$Tokens.extend(II)V -/
abbrev ws_X7_extend (G : Gx) (q_this : Nat) (q_kinds : Nat) (q_places : Nat) (q_values : Nat) (q_text : Nat) (c_length : Int32) (c_size : Int32) (c_kinds : Nat → Int32) (c_places : Nat → Int32) (c_values : Nat → Int64) : va_W := [(q_this, eO 6 [.ref q_text, .int c_length, .ref q_kinds, .ref q_places, .ref q_values, .int c_size]), (q_kinds, eI G 4001 c_kinds), (q_places, eI G 4001 c_places), (q_values, eJ G 4001 c_values)]
theorem mY_X7_extend : vY yX7_extend cX7_extend 5 (none) 2 := ⟨W2_186, W1_3, ⟨by decide +kernel, by decide +kernel⟩, by decide +kernel⟩
theorem mI_X7_extend : vYi yX7_extend := ⟨W2_185, (tb_in (tb_s (q := (yX7_extend, 6)) (by decide +kernel)) rfl)⟩
def f_X7_extend_58 (c_size : Int32) (c_places : Nat → Int32) (x2 : Int32) (x3 : Int32) (x4 : Int32) (c_kinds : Nat → Int32) (c_values : Nat → Int64) : Option ((Nat → Int32) × (Nat → Int64)) := if x4 = 0 then (if bad x3 4001 = true then none else vlet (((((c_values x3.toNatClampNeg) * (10 : Int64)) + x2.toInt64) - (48 : Int64))) fun t2 => if bad x3 4001 = true then none else vlet (vp_updL c_values x3.toNatClampNeg t2) fun w4 => some (c_kinds, w4)) else (if bad x3 4001 = true then none else vlet (((xlshl (c_values x3.toNatClampNeg) (8 : Int32)) ||| x2.toInt64)) fun t6 => if bad x3 4001 = true then none else vlet (vp_updL c_values x3.toNatClampNeg t6) fun w8 => some (c_kinds, w8))
set_option maxHeartbeats 4000000 in
set_option maxRecDepth 100000 in
theorem w_X7_extend_58 {G : Gx} {C : Cx} (hC : vH G C cX7_extend RX7 5 (none) { frames := 0, cells := 0, slots := 0, locals := 0 }) (q_this : Nat) (q_kinds : Nat) (q_places : Nat) (q_values : Nat) (q_text : Nat) (c_length : Int32) (c_size : Int32) (c_places : Nat → Int32) (R : (Nat → Int32) × (Nat → Int64)) (hQ : vR G C 0 0 none (ws_X7_extend G q_this q_kinds q_places q_values q_text c_length c_size R.1 c_places R.2)) (x2 : Int32) (x3 : Int32) (x4 : Int32) (c_kinds : Nat → Int32) (c_values : Nat → Int64) (hf : f_X7_extend_58 c_size c_places x2 x3 x4 c_kinds c_values = some R) : vG G C 0 0 58 [(0, .ref q_this), (2, .int x2), (3, .int x3), (4, .int x4)] [] (ws_X7_extend G q_this q_kinds q_places q_values q_text c_length c_size c_kinds c_places c_values) := by
  rw [f_X7_extend_58] at hf
  refine g_aload_n (pc := 58) 0 hC dX7_extend_58 rfl ?_
  refine g_get (pc := 59) 0 4 hC inX7 dX7_extend_59 W1_46 rfl rfl (Nat.le_of_ble_eq_true rfl) rfl rfl ?_
  refine g_iload_n (pc := 62) 2 hC dX7_extend_62 rfl ?_
  refine g_iload (pc := 63) 3 hC dX7_extend_63 rfl ?_
  refine g_if_eq (pc := 65) 83 hC dX7_extend_65 (by decide) (fun hb => ?_) (fun hb => ?_)
  · replace hf := ite_t hf hb
    refine g_aload_n (pc := 83) 0 hC dX7_extend_83 rfl ?_
    refine g_get (pc := 84) 0 4 hC inX7 dX7_extend_84 W1_46 rfl rfl (Nat.le_of_ble_eq_true rfl) rfl rfl ?_
    refine g_iload_n (pc := 87) 2 hC dX7_extend_87 rfl ?_
    obtain ⟨h1, hf⟩ := bad_s hf
    refine g_lald (pc := 88) 3 hC dX7_extend_88 rfl h1 ?_
    refine g_ldc2 (pc := 89) hC dX7_extend_89 W2_187 ?_
    refine g_lmul (pc := 92) hC dX7_extend_92 ?_
    refine g_iload_n (pc := 93) 1 hC dX7_extend_93 rfl ?_
    refine g_i2l (pc := 94) hC dX7_extend_94 ?_
    refine g_ladd (pc := 95) hC dX7_extend_95 ?_
    refine g_ldc2 (pc := 96) hC dX7_extend_96 W2_188 ?_
    refine g_lsub (pc := 99) hC dX7_extend_99 ?_
    obtain ⟨t2, et2, hf⟩ := vlet_s hf
    refine g_nml et2 ?_
    obtain ⟨h3, hf⟩ := bad_s hf
    obtain ⟨w4, ew4, hf⟩ := vlet_s hf
    refine g_last (pc := 100) (ws2 := (ws_X7_extend G q_this q_kinds q_places q_values q_text c_length c_size c_kinds c_places w4)) 3 hC dX7_extend_100 rfl h3 ew4 rfl ?_
    obtain rfl := Option.some.inj hf
    exact g_vret (pc := 101) hC hQ dX7_extend_101
  · replace hf := ite_f hf hb
    refine g_aload_n (pc := 68) 0 hC dX7_extend_68 rfl ?_
    refine g_get (pc := 69) 0 4 hC inX7 dX7_extend_69 W1_46 rfl rfl (Nat.le_of_ble_eq_true rfl) rfl rfl ?_
    refine g_iload_n (pc := 72) 2 hC dX7_extend_72 rfl ?_
    obtain ⟨h5, hf⟩ := bad_s hf
    refine g_lald (pc := 73) 3 hC dX7_extend_73 rfl h5 ?_
    refine g_bipush (pc := 74) (8 : Int32) hC dX7_extend_74 rfl ?_
    refine g_lshl (pc := 76) hC dX7_extend_76 ?_
    refine g_iload_n (pc := 77) 1 hC dX7_extend_77 rfl ?_
    refine g_i2l (pc := 78) hC dX7_extend_78 ?_
    refine g_lor (pc := 79) hC dX7_extend_79 ?_
    refine g_goto (pc := 80) 100 hC dX7_extend_80 (by decide) ?_
    obtain ⟨t6, et6, hf⟩ := vlet_s hf
    refine g_nml et6 ?_
    obtain ⟨h7, hf⟩ := bad_s hf
    obtain ⟨w8, ew8, hf⟩ := vlet_s hf
    refine g_last (pc := 100) (ws2 := (ws_X7_extend G q_this q_kinds q_places q_values q_text c_length c_size c_kinds c_places w8)) 3 hC dX7_extend_100 rfl h7 ew8 rfl ?_
    obtain rfl := Option.some.inj hf
    exact g_vret (pc := 101) hC hQ dX7_extend_101
def f_X7_extend_48 (c_size : Int32) (c_places : Nat → Int32) (x2 : Int32) (x3 : Int32) (x4 : Int32) (y0 : Int32) (y1 : Int32) (c_kinds : Nat → Int32) (c_values : Nat → Int64) : Option ((Nat → Int32) × (Nat → Int64)) := if y0 < y1 then ((f_X7_extend_58 c_size c_places x2 x3 x4 c_kinds c_values)) else (if bad x3 4001 = true then none else vlet (upd c_kinds x3.toNatClampNeg (4 : Int32)) fun w2 => (f_X7_extend_58 c_size c_places x2 x3 x4 w2 c_values))
set_option maxHeartbeats 4000000 in
set_option maxRecDepth 100000 in
theorem w_X7_extend_48 {G : Gx} {C : Cx} (hC : vH G C cX7_extend RX7 5 (none) { frames := 0, cells := 0, slots := 0, locals := 0 }) (q_this : Nat) (q_kinds : Nat) (q_places : Nat) (q_values : Nat) (q_text : Nat) (c_length : Int32) (c_size : Int32) (c_places : Nat → Int32) (R : (Nat → Int32) × (Nat → Int64)) (hQ : vR G C 0 0 none (ws_X7_extend G q_this q_kinds q_places q_values q_text c_length c_size R.1 c_places R.2)) (x2 : Int32) (x3 : Int32) (x4 : Int32) (y0 : Int32) (y1 : Int32) (c_kinds : Nat → Int32) (c_values : Nat → Int64) (hf : f_X7_extend_48 c_size c_places x2 x3 x4 y0 y1 c_kinds c_values = some R) : vG G C 0 0 48 [(0, .ref q_this), (2, .int x2), (3, .int x3), (4, .int x4)] [.int y1, .int y0] (ws_X7_extend G q_this q_kinds q_places q_values q_text c_length c_size c_kinds c_places c_values) := by
  rw [f_X7_extend_48] at hf
  refine g_icmp_lt (pc := 48) 58 hC dX7_extend_48 (by decide) (fun hb => ?_) (fun hb => ?_)
  · replace hf := ite_t hf hb
    exact w_X7_extend_58 hC q_this q_kinds q_places q_values q_text c_length c_size c_places R hQ x2 x3 x4 c_kinds c_values hf
  · replace hf := ite_f hf hb
    refine g_aload_n (pc := 51) 0 hC dX7_extend_51 rfl ?_
    refine g_get (pc := 52) 0 2 hC inX7 dX7_extend_52 W1_42 rfl rfl (Nat.le_of_ble_eq_true rfl) rfl rfl ?_
    refine g_iload_n (pc := 55) 2 hC dX7_extend_55 rfl ?_
    refine g_iconst (pc := 56) (4 : Int32) hC dX7_extend_56 rfl ?_
    obtain ⟨h1, hf⟩ := bad_s hf
    obtain ⟨w2, ew2, hf⟩ := vlet_s hf
    refine g_iast (pc := 57) (ws2 := (ws_X7_extend G q_this q_kinds q_places q_values q_text c_length c_size w2 c_places c_values)) 1 hC dX7_extend_57 rfl h1 ew2 rfl ?_
    exact w_X7_extend_58 hC q_this q_kinds q_places q_values q_text c_length c_size c_places R hQ x2 x3 x4 w2 c_values hf
def f_X7_extend_27 (c_size : Int32) (c_places : Nat → Int32) (x1 : Int32) (x2 : Int32) (x3 : Int32) (y0 : Int32) (c_kinds : Nat → Int32) (c_values : Nat → Int64) : Option ((Nat → Int32) × (Nat → Int64)) := if bad x3 4001 = true then none else if y0 = 0 then ((f_X7_extend_48 c_size c_places x2 x3 y0 (x1 - (c_places x3.toNatClampNeg)) (4 : Int32) c_kinds c_values)) else ((f_X7_extend_48 c_size c_places x2 x3 y0 (x1 - (c_places x3.toNatClampNeg)) (8 : Int32) c_kinds c_values))
set_option maxHeartbeats 4000000 in
set_option maxRecDepth 100000 in
theorem w_X7_extend_27 {G : Gx} {C : Cx} (hC : vH G C cX7_extend RX7 5 (none) { frames := 0, cells := 0, slots := 0, locals := 0 }) (q_this : Nat) (q_kinds : Nat) (q_places : Nat) (q_values : Nat) (q_text : Nat) (c_length : Int32) (c_size : Int32) (c_places : Nat → Int32) (R : (Nat → Int32) × (Nat → Int64)) (hQ : vR G C 0 0 none (ws_X7_extend G q_this q_kinds q_places q_values q_text c_length c_size R.1 c_places R.2)) (x1 : Int32) (x2 : Int32) (x3 : Int32) (y0 : Int32) (c_kinds : Nat → Int32) (c_values : Nat → Int64) (hf : f_X7_extend_27 c_size c_places x1 x2 x3 y0 c_kinds c_values = some R) : vG G C 0 0 27 [(0, .ref q_this), (1, .int x1), (2, .int x2), (3, .int x3)] [.int y0] (ws_X7_extend G q_this q_kinds q_places q_values q_text c_length c_size c_kinds c_places c_values) := by
  rw [f_X7_extend_27] at hf
  refine g_istore (pc := 27) [(4, .int y0), (0, .ref q_this), (1, .int x1), (2, .int x2), (3, .int x3)] hC dX7_extend_27 (Nat.le_of_ble_eq_true rfl) rfl ?_
  refine g_iload_n (pc := 29) 2 hC dX7_extend_29 rfl ?_
  refine g_aload_n (pc := 30) 1 hC dX7_extend_30 rfl ?_
  refine g_get (pc := 31) 0 3 hC inX7 dX7_extend_31 W1_44 rfl rfl (Nat.le_of_ble_eq_true rfl) rfl rfl ?_
  refine g_iload_n (pc := 34) 4 hC dX7_extend_34 rfl ?_
  obtain ⟨h1, hf⟩ := bad_s hf
  refine g_iald (pc := 35) 2 hC dX7_extend_35 rfl h1 ?_
  refine g_isub (pc := 36) hC dX7_extend_36 ?_
  refine g_iload (pc := 37) 0 hC dX7_extend_37 rfl ?_
  refine g_if_eq (pc := 39) 47 hC dX7_extend_39 (by decide) (fun hb => ?_) (fun hb => ?_)
  · replace hf := ite_t hf hb
    refine g_iconst (pc := 47) (4 : Int32) hC dX7_extend_47 rfl ?_
    refine g_sub (lv2 := [(0, .ref q_this), (2, .int x2), (3, .int x3), (4, .int y0)]) [1, 3, 4, 0] rfl ?_
    exact w_X7_extend_48 hC q_this q_kinds q_places q_values q_text c_length c_size c_places R hQ x2 x3 y0 (x1 - (c_places x3.toNatClampNeg)) (4 : Int32) c_kinds c_values hf
  · replace hf := ite_f hf hb
    refine g_bipush (pc := 42) (8 : Int32) hC dX7_extend_42 rfl ?_
    refine g_goto (pc := 44) 48 hC dX7_extend_44 (by decide) ?_
    refine g_sub (lv2 := [(0, .ref q_this), (2, .int x2), (3, .int x3), (4, .int y0)]) [1, 3, 4, 0] rfl ?_
    exact w_X7_extend_48 hC q_this q_kinds q_places q_values q_text c_length c_size c_places R hQ x2 x3 y0 (x1 - (c_places x3.toNatClampNeg)) (8 : Int32) c_kinds c_values hf
def f_X7_extend (x1 : Int32) (x2 : Int32) (c_size : Int32) (c_kinds : Nat → Int32) (c_places : Nat → Int32) (c_values : Nat → Int64) : Option ((Nat → Int32) × (Nat → Int64)) := vlet ((c_size - (1 : Int32))) fun t1 => if 0 ≤ t1 then (if bad t1 4001 = true then none else if (c_kinds t1.toNatClampNeg) = (1 : Int32) then ((f_X7_extend_27 c_size c_places x1 x2 t1 (1 : Int32) c_kinds c_values)) else ((f_X7_extend_27 c_size c_places x1 x2 t1 (0 : Int32) c_kinds c_values))) else (some (c_kinds, c_values))
set_option maxHeartbeats 4000000 in
set_option maxRecDepth 100000 in
theorem c_X7_extend (G : Gx) (q_this : Nat) (q_kinds : Nat) (q_places : Nat) (q_values : Nat) (q_text : Nat) (c_length : Int32) (c_size : Int32) (c_kinds : Nat → Int32) (c_places : Nat → Int32) (c_values : Nat → Int64) (x1 : Int32) (x2 : Int32) (R : (Nat → Int32) × (Nat → Int64)) (hf : f_X7_extend x1 x2 c_size c_kinds c_places c_values = some R) : vM G yX7_extend cX7_extend 5 (none) 0 0 [.ref q_this, .int x1, .int x2] (ws_X7_extend G q_this q_kinds q_places q_values q_text c_length c_size c_kinds c_places c_values) none (ws_X7_extend G q_this q_kinds q_places q_values q_text c_length c_size R.1 c_places R.2) := by
  refine vM_of (by decide +kernel) (Nat.le_of_ble_eq_true rfl) [(0, .ref q_this), (1, .int x1), (2, .int x2)] rfl (fun C hC hQ => ?_)
  have hC : vH G C cX7_extend RX7 5 (none) { frames := 0, cells := 0, slots := 0, locals := 0 } := hC
  rw [f_X7_extend] at hf
  refine g_aload_n (pc := 0) 0 hC dX7_extend_0 rfl ?_
  refine g_get (pc := 1) 0 5 hC inX7 dX7_extend_1 W1_48 rfl rfl (Nat.le_of_ble_eq_true rfl) rfl rfl ?_
  refine g_iconst (pc := 4) (1 : Int32) hC dX7_extend_4 rfl ?_
  refine g_isub (pc := 5) hC dX7_extend_5 ?_
  obtain ⟨t1, et1, hf⟩ := vlet_s hf
  refine g_nmi et1 ?_
  refine g_istore_n (pc := 6) [(3, .int t1), (0, .ref q_this), (1, .int x1), (2, .int x2)] hC dX7_extend_6 (Nat.le_of_ble_eq_true rfl) rfl ?_
  refine g_iload_n (pc := 7) 0 hC dX7_extend_7 rfl ?_
  refine g_if_ge (pc := 8) 12 hC dX7_extend_8 (by decide) (fun hb => ?_) (fun hb => ?_)
  · replace hf := ite_t hf hb
    refine g_aload_n (pc := 12) 1 hC dX7_extend_12 rfl ?_
    refine g_get (pc := 13) 0 2 hC inX7 dX7_extend_13 W1_42 rfl rfl (Nat.le_of_ble_eq_true rfl) rfl rfl ?_
    refine g_iload_n (pc := 16) 0 hC dX7_extend_16 rfl ?_
    obtain ⟨h2, hf⟩ := bad_s hf
    refine g_iald (pc := 17) 1 hC dX7_extend_17 rfl h2 ?_
    refine g_iconst (pc := 18) (1 : Int32) hC dX7_extend_18 rfl ?_
    refine g_icmp_ne (pc := 19) 26 hC dX7_extend_19 (by decide) (fun hb => ?_) (fun hb => ?_)
    · replace hf := ite_f hf hb
      refine g_iconst (pc := 26) (0 : Int32) hC dX7_extend_26 rfl ?_
      refine g_sub (lv2 := [(0, .ref q_this), (1, .int x1), (2, .int x2), (3, .int t1)]) [1, 2, 3, 0] rfl ?_
      exact w_X7_extend_27 hC q_this q_kinds q_places q_values q_text c_length c_size c_places R hQ x1 x2 t1 (0 : Int32) c_kinds c_values hf
    · replace hf := ite_t hf hb
      refine g_iconst (pc := 22) (1 : Int32) hC dX7_extend_22 rfl ?_
      refine g_goto (pc := 23) 27 hC dX7_extend_23 (by decide) ?_
      refine g_sub (lv2 := [(0, .ref q_this), (1, .int x1), (2, .int x2), (3, .int t1)]) [1, 2, 3, 0] rfl ?_
      exact w_X7_extend_27 hC q_this q_kinds q_places q_values q_text c_length c_size c_places R hQ x1 x2 t1 (1 : Int32) c_kinds c_values hf
  · replace hf := ite_f hf hb
    obtain rfl := Option.some.inj hf
    exact g_vret (pc := 11) hC hQ dX7_extend_11
/-! CoilBench$Tokens.isBlank(I)Z -/
abbrev ws_X7_isBlank (G : Gx)  : va_W := []
theorem mY_X7_isBlank : vY yX7_isBlank cX7_isBlank 1 (some .boolean) 1 := ⟨W2_191, W1_3, ⟨by decide +kernel, by decide +kernel⟩, by decide +kernel⟩
def f_X7_isBlank_12 : Option (Int32) := some (1 : Int32)
set_option maxHeartbeats 4000000 in
set_option maxRecDepth 100000 in
theorem w_X7_isBlank_12 {G : Gx} {C : Cx} (hC : vH G C cX7_isBlank RX7 1 (some .boolean) { frames := 0, cells := 0, slots := 0, locals := 0 })  (R : Int32) (hQ : vR G C 0 0 (some (.int R)) (ws_X7_isBlank G)) (hf : f_X7_isBlank_12 = some R) : vG G C 0 0 12 [] [] (ws_X7_isBlank G) := by
  rw [f_X7_isBlank_12] at hf
  refine g_iconst (pc := 12) (1 : Int32) hC dX7_isBlank_12 rfl ?_
  refine g_goto (pc := 13) 17 hC dX7_isBlank_13 (by decide) ?_
  obtain rfl := Option.some.inj hf
  exact g_zret (pc := 17) hC rfl hQ dX7_isBlank_17
def f_X7_isBlank (x0 : Int32) : Option (Int32) := if x0 = (32 : Int32) then ((f_X7_isBlank_12)) else (if x0 = (10 : Int32) then ((f_X7_isBlank_12)) else (some (0 : Int32)))
set_option maxHeartbeats 4000000 in
set_option maxRecDepth 100000 in
theorem c_X7_isBlank (G : Gx)  (x0 : Int32) (R : Int32) (hf : f_X7_isBlank x0 = some R) : vM G yX7_isBlank cX7_isBlank 1 (some .boolean) 0 0 [.int x0] (ws_X7_isBlank G) (some (.int R)) (ws_X7_isBlank G) := by
  refine vM_of (by decide +kernel) (Nat.le_of_ble_eq_true rfl) [(0, .int x0)] rfl (fun C hC hQ => ?_)
  have hC : vH G C cX7_isBlank RX7 1 (some .boolean) { frames := 0, cells := 0, slots := 0, locals := 0 } := hC
  rw [f_X7_isBlank] at hf
  refine g_iload_n (pc := 0) 0 hC dX7_isBlank_0 rfl ?_
  refine g_bipush (pc := 1) (32 : Int32) hC dX7_isBlank_1 rfl ?_
  refine g_icmp_eq (pc := 3) 12 hC dX7_isBlank_3 (by decide) (fun hb => ?_) (fun hb => ?_)
  · replace hf := ite_t hf hb
    refine g_sub (lv2 := []) [] rfl ?_
    exact w_X7_isBlank_12 hC R hQ hf
  · replace hf := ite_f hf hb
    refine g_iload_n (pc := 6) 0 hC dX7_isBlank_6 rfl ?_
    refine g_bipush (pc := 7) (10 : Int32) hC dX7_isBlank_7 rfl ?_
    refine g_icmp_ne (pc := 9) 16 hC dX7_isBlank_9 (by decide) (fun hb => ?_) (fun hb => ?_)
    · replace hf := ite_f hf hb
      refine g_iconst (pc := 16) (0 : Int32) hC dX7_isBlank_16 rfl ?_
      obtain rfl := Option.some.inj hf
      exact g_zret (pc := 17) hC rfl hQ dX7_isBlank_17
    · replace hf := ite_t hf hb
      refine g_sub (lv2 := []) [] rfl ?_
      exact w_X7_isBlank_12 hC R hQ hf
/-! CoilBench$Tokens.put(IIJ)V -/
abbrev ws_X7_put (G : Gx) (q_this : Nat) (q_kinds : Nat) (q_places : Nat) (q_values : Nat) (q_text : Nat) (c_length : Int32) (c_size : Int32) (c_kinds : Nat → Int32) (c_places : Nat → Int32) (c_values : Nat → Int64) : va_W := [(q_this, eO 6 [.ref q_text, .int c_length, .ref q_kinds, .ref q_places, .ref q_values, .int c_size]), (q_kinds, eI G 4001 c_kinds), (q_places, eI G 4001 c_places), (q_values, eJ G 4001 c_values)]
theorem mY_X7_put : vY yX7_put cX7_put 5 (none) 3 := ⟨W2_199, W1_3, ⟨by decide +kernel, by decide +kernel⟩, by decide +kernel⟩
theorem mI_X7_put : vYi yX7_put := ⟨W2_198, (tb_in (tb_s (q := (yX7_put, 6)) (by decide +kernel)) rfl)⟩
def f_X7_put (x1 : Int32) (x2 : Int32) (x3 : Int64) (c_size : Int32) (c_kinds : Nat → Int32) (c_places : Nat → Int32) (c_values : Nat → Int64) : Option (Int32 × (Nat → Int32) × (Nat → Int32) × (Nat → Int64)) := if (4001 : Int32) ≤ c_size then (some (c_size, c_kinds, c_places, c_values)) else (if bad c_size 4001 = true then none else vlet (upd c_kinds c_size.toNatClampNeg x1) fun w2 => if bad c_size 4001 = true then none else vlet (upd c_places c_size.toNatClampNeg x2) fun w4 => if bad c_size 4001 = true then none else vlet (vp_updL c_values c_size.toNatClampNeg x3) fun w6 => vlet ((c_size + (1 : Int32))) fun t7 => some (t7, w2, w4, w6))
set_option maxHeartbeats 4000000 in
set_option maxRecDepth 100000 in
theorem c_X7_put (G : Gx) (q_this : Nat) (q_kinds : Nat) (q_places : Nat) (q_values : Nat) (q_text : Nat) (c_length : Int32) (c_size : Int32) (c_kinds : Nat → Int32) (c_places : Nat → Int32) (c_values : Nat → Int64) (x1 : Int32) (x2 : Int32) (x3 : Int64) (R : Int32 × (Nat → Int32) × (Nat → Int32) × (Nat → Int64)) (hf : f_X7_put x1 x2 x3 c_size c_kinds c_places c_values = some R) : vM G yX7_put cX7_put 5 (none) 0 0 [.ref q_this, .int x1, .int x2, .long x3] (ws_X7_put G q_this q_kinds q_places q_values q_text c_length c_size c_kinds c_places c_values) none (ws_X7_put G q_this q_kinds q_places q_values q_text c_length R.1 R.2.1 R.2.2.1 R.2.2.2) := by
  refine vM_of (by decide +kernel) (Nat.le_of_ble_eq_true rfl) [(0, .ref q_this), (1, .int x1), (2, .int x2), (3, .long x3)] rfl (fun C hC hQ => ?_)
  have hC : vH G C cX7_put RX7 5 (none) { frames := 0, cells := 0, slots := 0, locals := 0 } := hC
  rw [f_X7_put] at hf
  refine g_aload_n (pc := 0) 0 hC dX7_put_0 rfl ?_
  refine g_get (pc := 1) 0 5 hC inX7 dX7_put_1 W1_48 rfl rfl (Nat.le_of_ble_eq_true rfl) rfl rfl ?_
  refine g_sipush (pc := 4) (4001 : Int32) hC dX7_put_4 rfl ?_
  refine g_icmp_ge (pc := 7) 50 hC dX7_put_7 (by decide) (fun hb => ?_) (fun hb => ?_)
  · replace hf := ite_t hf hb
    obtain rfl := Option.some.inj hf
    exact g_vret (pc := 50) hC hQ dX7_put_50
  · replace hf := ite_f hf hb
    refine g_aload_n (pc := 10) 0 hC dX7_put_10 rfl ?_
    refine g_get (pc := 11) 0 2 hC inX7 dX7_put_11 W1_42 rfl rfl (Nat.le_of_ble_eq_true rfl) rfl rfl ?_
    refine g_aload_n (pc := 14) 0 hC dX7_put_14 rfl ?_
    refine g_get (pc := 15) 0 5 hC inX7 dX7_put_15 W1_48 rfl rfl (Nat.le_of_ble_eq_true rfl) rfl rfl ?_
    refine g_iload_n (pc := 18) 1 hC dX7_put_18 rfl ?_
    obtain ⟨h1, hf⟩ := bad_s hf
    obtain ⟨w2, ew2, hf⟩ := vlet_s hf
    refine g_iast (pc := 19) (ws2 := (ws_X7_put G q_this q_kinds q_places q_values q_text c_length c_size w2 c_places c_values)) 1 hC dX7_put_19 rfl h1 ew2 rfl ?_
    refine g_aload_n (pc := 20) 0 hC dX7_put_20 rfl ?_
    refine g_get (pc := 21) 0 3 hC inX7 dX7_put_21 W1_44 rfl rfl (Nat.le_of_ble_eq_true rfl) rfl rfl ?_
    refine g_aload_n (pc := 24) 0 hC dX7_put_24 rfl ?_
    refine g_get (pc := 25) 0 5 hC inX7 dX7_put_25 W1_48 rfl rfl (Nat.le_of_ble_eq_true rfl) rfl rfl ?_
    refine g_iload_n (pc := 28) 2 hC dX7_put_28 rfl ?_
    obtain ⟨h3, hf⟩ := bad_s hf
    obtain ⟨w4, ew4, hf⟩ := vlet_s hf
    refine g_iast (pc := 29) (ws2 := (ws_X7_put G q_this q_kinds q_places q_values q_text c_length c_size w2 w4 c_values)) 2 hC dX7_put_29 rfl h3 ew4 rfl ?_
    refine g_aload_n (pc := 30) 0 hC dX7_put_30 rfl ?_
    refine g_get (pc := 31) 0 4 hC inX7 dX7_put_31 W1_46 rfl rfl (Nat.le_of_ble_eq_true rfl) rfl rfl ?_
    refine g_aload_n (pc := 34) 0 hC dX7_put_34 rfl ?_
    refine g_get (pc := 35) 0 5 hC inX7 dX7_put_35 W1_48 rfl rfl (Nat.le_of_ble_eq_true rfl) rfl rfl ?_
    refine g_lload_n (pc := 38) 3 hC dX7_put_38 rfl ?_
    obtain ⟨h5, hf⟩ := bad_s hf
    obtain ⟨w6, ew6, hf⟩ := vlet_s hf
    refine g_last (pc := 39) (ws2 := (ws_X7_put G q_this q_kinds q_places q_values q_text c_length c_size w2 w4 w6)) 3 hC dX7_put_39 rfl h5 ew6 rfl ?_
    refine g_aload_n (pc := 40) 0 hC dX7_put_40 rfl ?_
    refine g_dup (pc := 41) rfl hC dX7_put_41 ?_
    refine g_get (pc := 42) 0 5 hC inX7 dX7_put_42 W1_48 rfl rfl (Nat.le_of_ble_eq_true rfl) rfl rfl ?_
    refine g_iconst (pc := 45) (1 : Int32) hC dX7_put_45 rfl ?_
    refine g_iadd (pc := 46) hC dX7_put_46 ?_
    obtain ⟨t7, et7, hf⟩ := vlet_s hf
    refine g_nmi et7 ?_
    refine g_put (pc := 47) (ws2 := (ws_X7_put G q_this q_kinds q_places q_values q_text c_length t7 w2 w4 w6)) 0 5 hC inX7 tyX7_ok nmX7 dX7_put_47 W1_48 rfl rfl (Nat.le_of_ble_eq_true rfl) rfl rfl rfl rfl rfl (Nat.le_of_ble_eq_true rfl) rfl ?_
    obtain rfl := Option.some.inj hf
    exact g_vret (pc := 50) hC hQ dX7_put_50
/-! CoilBench$Tokens.begin(II)V -/
abbrev ws_X7_begin (G : Gx) (q_this : Nat) (q_kinds : Nat) (q_places : Nat) (q_values : Nat) (q_text : Nat) (c_length : Int32) (c_size : Int32) (c_kinds : Nat → Int32) (c_places : Nat → Int32) (c_values : Nat → Int64) : va_W := [(q_this, eO 6 [.ref q_text, .int c_length, .ref q_kinds, .ref q_places, .ref q_values, .int c_size]), (q_kinds, eI G 4001 c_kinds), (q_places, eI G 4001 c_places), (q_values, eJ G 4001 c_values)]
theorem mY_X7_begin : vY yX7_begin cX7_begin 4 (none) 2 := ⟨W2_195, W1_3, ⟨by decide +kernel, by decide +kernel⟩, by decide +kernel⟩
theorem mI_X7_begin : vYi yX7_begin := ⟨W2_194, (tb_in (tb_s (q := (yX7_begin, 6)) (by decide +kernel)) rfl)⟩
def f_X7_begin_79 (x1 : Int32) (y1 : Int32) (c_size : Int32) (c_kinds : Nat → Int32) (c_places : Nat → Int32) (c_values : Nat → Int64) : Option (Int32 × (Nat → Int32) × (Nat → Int32) × (Nat → Int64)) := (f_X7_put y1 x1 (0 : Int64) c_size c_kinds c_places c_values).bind fun r1 => some (r1.1, r1.2.1, r1.2.2.1, r1.2.2.2)
set_option maxHeartbeats 4000000 in
set_option maxRecDepth 100000 in
theorem w_X7_begin_79 {G : Gx} {C : Cx} (hC : vH G C cX7_begin RX7 4 (none) { frames := 1, cells := 0, slots := 0, locals := 24 }) (q_this : Nat) (q_kinds : Nat) (q_places : Nat) (q_values : Nat) (q_text : Nat) (c_length : Int32) (R : Int32 × (Nat → Int32) × (Nat → Int32) × (Nat → Int64)) (hQ : vR G C 0 0 none (ws_X7_begin G q_this q_kinds q_places q_values q_text c_length R.1 R.2.1 R.2.2.1 R.2.2.2)) (x1 : Int32) (y1 : Int32) (c_size : Int32) (c_kinds : Nat → Int32) (c_places : Nat → Int32) (c_values : Nat → Int64) (hf : f_X7_begin_79 x1 y1 c_size c_kinds c_places c_values = some R) : vG G C 0 0 79 [(1, .int x1)] [.int y1, .ref q_this] (ws_X7_begin G q_this q_kinds q_places q_values q_text c_length c_size c_kinds c_places c_values) := by
  rw [f_X7_begin_79] at hf
  refine g_iload_n (pc := 79) 0 hC dX7_begin_79 rfl ?_
  refine g_lconst (pc := 80) (0 : Int64) hC dX7_begin_80 rfl ?_
  obtain ⟨r1, hr1, hf⟩ := bnd_s hf
  refine g_callVv (pc := 81) (st := []) (wc2 := (ws_X7_put G q_this q_kinds q_places q_values q_text c_length r1.1 r1.2.1 r1.2.2.1 r1.2.2.2)) (ws2 := (ws_X7_begin G q_this q_kinds q_places q_values q_text c_length r1.1 r1.2.1 r1.2.2.1 r1.2.2.2)) [0, 1, 2, 3] 0 hC (c_X7_put G q_this q_kinds q_places q_values q_text c_length c_size c_kinds c_places c_values y1 x1 (0 : Int64) r1 hr1) mY_X7_put mI_X7_put W2_196 dX7_begin_81 rfl rfl rfl rfl rfl rfl rfl rfl rfl ⟨Nat.le_of_ble_eq_true rfl, Nat.le_of_ble_eq_true rfl⟩ ⟨Nat.le_refl 0, Nat.le_refl 0⟩ (Nat.le_of_ble_eq_true rfl) ?_
  obtain rfl := Option.some.inj hf
  exact g_vret (pc := 84) hC hQ dX7_begin_84
def f_X7_begin_68 (x1 : Int32) (x2 : Int32) (y0 : Int32) (c_size : Int32) (c_kinds : Nat → Int32) (c_places : Nat → Int32) (c_values : Nat → Int64) : Option (Int32 × (Nat → Int32) × (Nat → Int32) × (Nat → Int64)) := if y0 = 0 then ((f_X7_begin_79 x1 (4 : Int32) c_size c_kinds c_places c_values)) else ((f_X7_begin_79 x1 x2 c_size c_kinds c_places c_values))
set_option maxHeartbeats 4000000 in
set_option maxRecDepth 100000 in
theorem w_X7_begin_68 {G : Gx} {C : Cx} (hC : vH G C cX7_begin RX7 4 (none) { frames := 1, cells := 0, slots := 0, locals := 24 }) (q_this : Nat) (q_kinds : Nat) (q_places : Nat) (q_values : Nat) (q_text : Nat) (c_length : Int32) (R : Int32 × (Nat → Int32) × (Nat → Int32) × (Nat → Int64)) (hQ : vR G C 0 0 none (ws_X7_begin G q_this q_kinds q_places q_values q_text c_length R.1 R.2.1 R.2.2.1 R.2.2.2)) (x1 : Int32) (x2 : Int32) (y0 : Int32) (c_size : Int32) (c_kinds : Nat → Int32) (c_places : Nat → Int32) (c_values : Nat → Int64) (hf : f_X7_begin_68 x1 x2 y0 c_size c_kinds c_places c_values = some R) : vG G C 0 0 68 [(0, .ref q_this), (1, .int x1), (2, .int x2)] [.int y0] (ws_X7_begin G q_this q_kinds q_places q_values q_text c_length c_size c_kinds c_places c_values) := by
  rw [f_X7_begin_68] at hf
  refine g_istore_n (pc := 68) [(3, .int y0), (0, .ref q_this), (1, .int x1), (2, .int x2)] hC dX7_begin_68 (Nat.le_of_ble_eq_true rfl) rfl ?_
  refine g_aload_n (pc := 69) 1 hC dX7_begin_69 rfl ?_
  refine g_iload_n (pc := 70) 0 hC dX7_begin_70 rfl ?_
  refine g_if_eq (pc := 71) 78 hC dX7_begin_71 (by decide) (fun hb => ?_) (fun hb => ?_)
  · replace hf := ite_t hf hb
    refine g_iconst (pc := 78) (4 : Int32) hC dX7_begin_78 rfl ?_
    refine g_sub (lv2 := [(1, .int x1)]) [2] rfl ?_
    exact w_X7_begin_79 hC q_this q_kinds q_places q_values q_text c_length R hQ x1 (4 : Int32) c_size c_kinds c_places c_values hf
  · replace hf := ite_f hf hb
    refine g_iload_n (pc := 74) 3 hC dX7_begin_74 rfl ?_
    refine g_goto (pc := 75) 79 hC dX7_begin_75 (by decide) ?_
    refine g_sub (lv2 := [(1, .int x1)]) [2] rfl ?_
    exact w_X7_begin_79 hC q_this q_kinds q_places q_values q_text c_length R hQ x1 x2 c_size c_kinds c_places c_values hf
def f_X7_begin_63 (x1 : Int32) (x2 : Int32) (c_size : Int32) (c_kinds : Nat → Int32) (c_places : Nat → Int32) (c_values : Nat → Int64) : Option (Int32 × (Nat → Int32) × (Nat → Int32) × (Nat → Int64)) := (f_X7_begin_68 x1 x2 (1 : Int32) c_size c_kinds c_places c_values)
set_option maxHeartbeats 4000000 in
set_option maxRecDepth 100000 in
theorem w_X7_begin_63 {G : Gx} {C : Cx} (hC : vH G C cX7_begin RX7 4 (none) { frames := 1, cells := 0, slots := 0, locals := 24 }) (q_this : Nat) (q_kinds : Nat) (q_places : Nat) (q_values : Nat) (q_text : Nat) (c_length : Int32) (R : Int32 × (Nat → Int32) × (Nat → Int32) × (Nat → Int64)) (hQ : vR G C 0 0 none (ws_X7_begin G q_this q_kinds q_places q_values q_text c_length R.1 R.2.1 R.2.2.1 R.2.2.2)) (x1 : Int32) (x2 : Int32) (c_size : Int32) (c_kinds : Nat → Int32) (c_places : Nat → Int32) (c_values : Nat → Int64) (hf : f_X7_begin_63 x1 x2 c_size c_kinds c_places c_values = some R) : vG G C 0 0 63 [(0, .ref q_this), (1, .int x1), (2, .int x2)] [] (ws_X7_begin G q_this q_kinds q_places q_values q_text c_length c_size c_kinds c_places c_values) := by
  rw [f_X7_begin_63] at hf
  refine g_iconst (pc := 63) (1 : Int32) hC dX7_begin_63 rfl ?_
  refine g_goto (pc := 64) 68 hC dX7_begin_64 (by decide) ?_
  exact w_X7_begin_68 hC q_this q_kinds q_places q_values q_text c_length R hQ x1 x2 (1 : Int32) c_size c_kinds c_places c_values hf
def f_X7_begin (x1 : Int32) (x2 : Int32) (c_size : Int32) (c_kinds : Nat → Int32) (c_places : Nat → Int32) (c_values : Nat → Int64) : Option (Int32 × (Nat → Int32) × (Nat → Int32) × (Nat → Int64)) := (f_X7_isLetter x2).bind fun r1 => if r1 = 0 then ((f_X7_isDigit x2).bind fun r2 => if r2 = 0 then (if x2 = (46 : Int32) then ((f_X7_begin_63 x1 x2 c_size c_kinds c_places c_values)) else (if x2 = (59 : Int32) then ((f_X7_begin_63 x1 x2 c_size c_kinds c_places c_values)) else (if x2 = (43 : Int32) then ((f_X7_begin_63 x1 x2 c_size c_kinds c_places c_values)) else (if x2 = (45 : Int32) then ((f_X7_begin_63 x1 x2 c_size c_kinds c_places c_values)) else ((f_X7_begin_68 x1 x2 (0 : Int32) c_size c_kinds c_places c_values)))))) else ((f_X7_put (2 : Int32) x1 (x2 - (48 : Int32)).toInt64 c_size c_kinds c_places c_values).bind fun r3 => some (r3.1, r3.2.1, r3.2.2.1, r3.2.2.2))) else ((f_X7_put (1 : Int32) x1 x2.toInt64 c_size c_kinds c_places c_values).bind fun r4 => some (r4.1, r4.2.1, r4.2.2.1, r4.2.2.2))
set_option maxHeartbeats 4000000 in
set_option maxRecDepth 100000 in
theorem c_X7_begin (G : Gx) (q_this : Nat) (q_kinds : Nat) (q_places : Nat) (q_values : Nat) (q_text : Nat) (c_length : Int32) (c_size : Int32) (c_kinds : Nat → Int32) (c_places : Nat → Int32) (c_values : Nat → Int64) (x1 : Int32) (x2 : Int32) (R : Int32 × (Nat → Int32) × (Nat → Int32) × (Nat → Int64)) (hf : f_X7_begin x1 x2 c_size c_kinds c_places c_values = some R) : vM G yX7_begin cX7_begin 4 (none) 1 24 [.ref q_this, .int x1, .int x2] (ws_X7_begin G q_this q_kinds q_places q_values q_text c_length c_size c_kinds c_places c_values) none (ws_X7_begin G q_this q_kinds q_places q_values q_text c_length R.1 R.2.1 R.2.2.1 R.2.2.2) := by
  refine vM_of (by decide +kernel) (Nat.le_of_ble_eq_true rfl) [(0, .ref q_this), (1, .int x1), (2, .int x2)] rfl (fun C hC hQ => ?_)
  have hC : vH G C cX7_begin RX7 4 (none) { frames := 1, cells := 0, slots := 0, locals := 24 } := hC
  rw [f_X7_begin] at hf
  refine g_iload_n (pc := 0) 2 hC dX7_begin_0 rfl ?_
  obtain ⟨r1, hr1, hf⟩ := bnd_s hf
  refine g_callSi (pc := 1) (st := []) (wc2 := (ws_X7_isLetter G)) (ws2 := (ws_X7_begin G q_this q_kinds q_places q_values q_text c_length c_size c_kinds c_places c_values)) [] hC (c_X7_isLetter G x2 r1 hr1) mY_X7_isLetter W2_181 W2_180 dX7_begin_1 rfl rfl rfl rfl rfl rfl ⟨Nat.le_of_ble_eq_true rfl, Nat.le_of_ble_eq_true rfl⟩ ⟨Nat.le_refl 0, Nat.le_refl 0⟩ (Nat.le_of_ble_eq_true rfl) ?_
  refine g_if_eq (pc := 4) 18 hC dX7_begin_4 (by decide) (fun hb => ?_) (fun hb => ?_)
  · replace hf := ite_t hf hb
    refine g_iload_n (pc := 18) 2 hC dX7_begin_18 rfl ?_
    obtain ⟨r2, hr2, hf⟩ := bnd_s hf
    refine g_callSi (pc := 19) (st := []) (wc2 := (ws_X7_isDigit G)) (ws2 := (ws_X7_begin G q_this q_kinds q_places q_values q_text c_length c_size c_kinds c_places c_values)) [] hC (c_X7_isDigit G x2 r2 hr2) mY_X7_isDigit W2_178 W2_177 dX7_begin_19 rfl rfl rfl rfl rfl rfl ⟨Nat.le_of_ble_eq_true rfl, Nat.le_of_ble_eq_true rfl⟩ ⟨Nat.le_refl 0, Nat.le_refl 0⟩ (Nat.le_of_ble_eq_true rfl) ?_
    refine g_if_eq (pc := 22) 39 hC dX7_begin_22 (by decide) (fun hb => ?_) (fun hb => ?_)
    · replace hf := ite_t hf hb
      refine g_iload_n (pc := 39) 2 hC dX7_begin_39 rfl ?_
      refine g_bipush (pc := 40) (46 : Int32) hC dX7_begin_40 rfl ?_
      refine g_icmp_eq (pc := 42) 63 hC dX7_begin_42 (by decide) (fun hb => ?_) (fun hb => ?_)
      · replace hf := ite_t hf hb
        exact w_X7_begin_63 hC q_this q_kinds q_places q_values q_text c_length R hQ x1 x2 c_size c_kinds c_places c_values hf
      · replace hf := ite_f hf hb
        refine g_iload_n (pc := 45) 2 hC dX7_begin_45 rfl ?_
        refine g_bipush (pc := 46) (59 : Int32) hC dX7_begin_46 rfl ?_
        refine g_icmp_eq (pc := 48) 63 hC dX7_begin_48 (by decide) (fun hb => ?_) (fun hb => ?_)
        · replace hf := ite_t hf hb
          exact w_X7_begin_63 hC q_this q_kinds q_places q_values q_text c_length R hQ x1 x2 c_size c_kinds c_places c_values hf
        · replace hf := ite_f hf hb
          refine g_iload_n (pc := 51) 2 hC dX7_begin_51 rfl ?_
          refine g_bipush (pc := 52) (43 : Int32) hC dX7_begin_52 rfl ?_
          refine g_icmp_eq (pc := 54) 63 hC dX7_begin_54 (by decide) (fun hb => ?_) (fun hb => ?_)
          · replace hf := ite_t hf hb
            exact w_X7_begin_63 hC q_this q_kinds q_places q_values q_text c_length R hQ x1 x2 c_size c_kinds c_places c_values hf
          · replace hf := ite_f hf hb
            refine g_iload_n (pc := 57) 2 hC dX7_begin_57 rfl ?_
            refine g_bipush (pc := 58) (45 : Int32) hC dX7_begin_58 rfl ?_
            refine g_icmp_ne (pc := 60) 67 hC dX7_begin_60 (by decide) (fun hb => ?_) (fun hb => ?_)
            · replace hf := ite_f hf hb
              refine g_iconst (pc := 67) (0 : Int32) hC dX7_begin_67 rfl ?_
              exact w_X7_begin_68 hC q_this q_kinds q_places q_values q_text c_length R hQ x1 x2 (0 : Int32) c_size c_kinds c_places c_values hf
            · replace hf := ite_t hf hb
              exact w_X7_begin_63 hC q_this q_kinds q_places q_values q_text c_length R hQ x1 x2 c_size c_kinds c_places c_values hf
    · replace hf := ite_f hf hb
      refine g_aload_n (pc := 25) 0 hC dX7_begin_25 rfl ?_
      refine g_iconst (pc := 26) (2 : Int32) hC dX7_begin_26 rfl ?_
      refine g_iload_n (pc := 27) 1 hC dX7_begin_27 rfl ?_
      refine g_iload_n (pc := 28) 2 hC dX7_begin_28 rfl ?_
      refine g_bipush (pc := 29) (48 : Int32) hC dX7_begin_29 rfl ?_
      refine g_isub (pc := 31) hC dX7_begin_31 ?_
      refine g_i2l (pc := 32) hC dX7_begin_32 ?_
      obtain ⟨r3, hr3, hf⟩ := bnd_s hf
      refine g_callVv (pc := 33) (st := []) (wc2 := (ws_X7_put G q_this q_kinds q_places q_values q_text c_length r3.1 r3.2.1 r3.2.2.1 r3.2.2.2)) (ws2 := (ws_X7_begin G q_this q_kinds q_places q_values q_text c_length r3.1 r3.2.1 r3.2.2.1 r3.2.2.2)) [0, 1, 2, 3] 0 hC (c_X7_put G q_this q_kinds q_places q_values q_text c_length c_size c_kinds c_places c_values (2 : Int32) x1 (x2 - (48 : Int32)).toInt64 r3 hr3) mY_X7_put mI_X7_put W2_196 dX7_begin_33 rfl rfl rfl rfl rfl rfl rfl rfl rfl ⟨Nat.le_of_ble_eq_true rfl, Nat.le_of_ble_eq_true rfl⟩ ⟨Nat.le_refl 0, Nat.le_refl 0⟩ (Nat.le_of_ble_eq_true rfl) ?_
      refine g_goto (pc := 36) 84 hC dX7_begin_36 (by decide) ?_
      obtain rfl := Option.some.inj hf
      exact g_vret (pc := 84) hC hQ dX7_begin_84
  · replace hf := ite_f hf hb
    refine g_aload_n (pc := 7) 0 hC dX7_begin_7 rfl ?_
    refine g_iconst (pc := 8) (1 : Int32) hC dX7_begin_8 rfl ?_
    refine g_iload_n (pc := 9) 1 hC dX7_begin_9 rfl ?_
    refine g_iload_n (pc := 10) 2 hC dX7_begin_10 rfl ?_
    refine g_i2l (pc := 11) hC dX7_begin_11 ?_
    obtain ⟨r4, hr4, hf⟩ := bnd_s hf
    refine g_callVv (pc := 12) (st := []) (wc2 := (ws_X7_put G q_this q_kinds q_places q_values q_text c_length r4.1 r4.2.1 r4.2.2.1 r4.2.2.2)) (ws2 := (ws_X7_begin G q_this q_kinds q_places q_values q_text c_length r4.1 r4.2.1 r4.2.2.1 r4.2.2.2)) [0, 1, 2, 3] 0 hC (c_X7_put G q_this q_kinds q_places q_values q_text c_length c_size c_kinds c_places c_values (1 : Int32) x1 x2.toInt64 r4 hr4) mY_X7_put mI_X7_put W2_196 dX7_begin_12 rfl rfl rfl rfl rfl rfl rfl rfl rfl ⟨Nat.le_of_ble_eq_true rfl, Nat.le_of_ble_eq_true rfl⟩ ⟨Nat.le_refl 0, Nat.le_refl 0⟩ (Nat.le_of_ble_eq_true rfl) ?_
    refine g_goto (pc := 15) 84 hC dX7_begin_15 (by decide) ?_
    obtain rfl := Option.some.inj hf
    exact g_vret (pc := 84) hC hQ dX7_begin_84
/-! CoilBench$History.clear()V -/
abbrev ws_X1_clear (G : Gx) (q_this : Nat) (q_kept : Nat) (c_next : Int32) (c_size : Int32) : va_W := [(q_this, eO 0 [.ref q_kept, .int c_next, .int c_size])]
theorem mY_X1_clear : vY yX1_clear cX1_clear 1 (none) 0 := ⟨W3_131, W1_9, ⟨by decide +kernel, by decide +kernel⟩, by decide +kernel⟩
theorem mI_X1_clear : vYi yX1_clear := ⟨W3_129, W3_130⟩
def f_X1_clear (c_next : Int32) (c_size : Int32) : Option (Int32 × Int32) := some ((0 : Int32), (0 : Int32))
set_option maxHeartbeats 4000000 in
set_option maxRecDepth 100000 in
theorem c_X1_clear (G : Gx) (q_this : Nat) (q_kept : Nat) (c_next : Int32) (c_size : Int32) (R : Int32 × Int32) (hf : f_X1_clear c_next c_size = some R) : vM G yX1_clear cX1_clear 1 (none) 0 0 [.ref q_this] (ws_X1_clear G q_this q_kept c_next c_size) none (ws_X1_clear G q_this q_kept R.1 R.2) := by
  refine vM_of (by decide +kernel) (Nat.le_of_ble_eq_true rfl) [(0, .ref q_this)] rfl (fun C hC hQ => ?_)
  have hC : vH G C cX1_clear RX1 1 (none) { frames := 0, cells := 0, slots := 0, locals := 0 } := hC
  rw [f_X1_clear] at hf
  refine g_aload_n (pc := 0) 0 hC dX1_clear_0 rfl ?_
  refine g_iconst (pc := 1) (0 : Int32) hC dX1_clear_1 rfl ?_
  refine g_put (pc := 2) (ws2 := (ws_X1_clear G q_this q_kept (0 : Int32) c_size)) 0 1 hC inX1 tyX1_ok nmX1 dX1_clear_2 W2_77 rfl rfl (Nat.le_of_ble_eq_true rfl) rfl rfl rfl rfl rfl (Nat.le_of_ble_eq_true rfl) rfl ?_
  refine g_aload_n (pc := 5) 0 hC dX1_clear_5 rfl ?_
  refine g_iconst (pc := 6) (0 : Int32) hC dX1_clear_6 rfl ?_
  refine g_put (pc := 7) (ws2 := (ws_X1_clear G q_this q_kept (0 : Int32) (0 : Int32))) 0 2 hC inX1 tyX1_ok nmX1 dX1_clear_7 W2_78 rfl rfl (Nat.le_of_ble_eq_true rfl) rfl rfl rfl rfl rfl (Nat.le_of_ble_eq_true rfl) rfl ?_
  obtain rfl := Option.some.inj hf
  exact g_vret (pc := 10) hC hQ dX1_clear_10
/-! CoilBench$Races.clear()V -/
abbrev ws_X4_clear (G : Gx) (q_this : Nat) (q_main : Nat) (q_ahead : Nat) (q_trial : Nat) (c_due : Int64) (c_onTick : Int32) : va_W := [(q_this, eO 3 [.ref q_main, .ref q_ahead, .ref q_trial, .long c_due, .int c_onTick])]
theorem mY_X4_clear : vY yX4_clear cX4_clear 1 (none) 0 := ⟨W3_135, W1_10, ⟨by decide +kernel, by decide +kernel⟩, by decide +kernel⟩
theorem mI_X4_clear : vYi yX4_clear := ⟨W3_133, W3_134⟩
def f_X4_clear (c_onTick : Int32) : Option (Int32) := some (-1 : Int32)
set_option maxHeartbeats 4000000 in
set_option maxRecDepth 100000 in
theorem c_X4_clear (G : Gx) (q_this : Nat) (q_main : Nat) (q_ahead : Nat) (q_trial : Nat) (c_due : Int64) (c_onTick : Int32) (R : Int32) (hf : f_X4_clear c_onTick = some R) : vM G yX4_clear cX4_clear 1 (none) 0 0 [.ref q_this] (ws_X4_clear G q_this q_main q_ahead q_trial c_due c_onTick) none (ws_X4_clear G q_this q_main q_ahead q_trial c_due R) := by
  refine vM_of (by decide +kernel) (Nat.le_of_ble_eq_true rfl) [(0, .ref q_this)] rfl (fun C hC hQ => ?_)
  have hC : vH G C cX4_clear RX4 1 (none) { frames := 0, cells := 0, slots := 0, locals := 0 } := hC
  rw [f_X4_clear] at hf
  refine g_aload_n (pc := 0) 0 hC dX4_clear_0 rfl ?_
  refine g_iconst (pc := 1) (-1 : Int32) hC dX4_clear_1 rfl ?_
  refine g_put (pc := 2) (ws2 := (ws_X4_clear G q_this q_main q_ahead q_trial c_due (-1 : Int32))) 0 4 hC inX4 tyX4_ok nmX4 dX4_clear_2 W2_99 rfl rfl (Nat.le_of_ble_eq_true rfl) rfl rfl rfl rfl rfl (Nat.le_of_ble_eq_true rfl) rfl ?_
  obtain rfl := Option.some.inj hf
  exact g_vret (pc := 5) hC hQ dX4_clear_5
/-! CoilBench$Tokens.clear()V -/
abbrev ws_X7_clear (G : Gx) (q_this : Nat) (q_text : Nat) (q_kinds : Nat) (q_places : Nat) (q_values : Nat) (c_length : Int32) (c_size : Int32) : va_W := [(q_this, eO 6 [.ref q_text, .int c_length, .ref q_kinds, .ref q_places, .ref q_values, .int c_size])]
theorem mY_X7_clear : vY yX7_clear cX7_clear 1 (none) 0 := ⟨W3_146, W1_3, ⟨by decide +kernel, by decide +kernel⟩, by decide +kernel⟩
theorem mI_X7_clear : vYi yX7_clear := ⟨W3_144, W3_145⟩
def f_X7_clear (c_length : Int32) : Option (Int32) := some (0 : Int32)
set_option maxHeartbeats 4000000 in
set_option maxRecDepth 100000 in
theorem c_X7_clear (G : Gx) (q_this : Nat) (q_text : Nat) (q_kinds : Nat) (q_places : Nat) (q_values : Nat) (c_length : Int32) (c_size : Int32) (R : Int32) (hf : f_X7_clear c_length = some R) : vM G yX7_clear cX7_clear 1 (none) 0 0 [.ref q_this] (ws_X7_clear G q_this q_text q_kinds q_places q_values c_length c_size) none (ws_X7_clear G q_this q_text q_kinds q_places q_values R c_size) := by
  refine vM_of (by decide +kernel) (Nat.le_of_ble_eq_true rfl) [(0, .ref q_this)] rfl (fun C hC hQ => ?_)
  have hC : vH G C cX7_clear RX7 1 (none) { frames := 0, cells := 0, slots := 0, locals := 0 } := hC
  rw [f_X7_clear] at hf
  refine g_aload_n (pc := 0) 0 hC dX7_clear_0 rfl ?_
  refine g_iconst (pc := 1) (0 : Int32) hC dX7_clear_1 rfl ?_
  refine g_put (pc := 2) (ws2 := (ws_X7_clear G q_this q_text q_kinds q_places q_values (0 : Int32) c_size)) 0 1 hC inX7 tyX7_ok nmX7 dX7_clear_2 W1_41 rfl rfl (Nat.le_of_ble_eq_true rfl) rfl rfl rfl rfl rfl (Nat.le_of_ble_eq_true rfl) rfl ?_
  obtain rfl := Option.some.inj hf
  exact g_vret (pc := 5) hC hQ dX7_clear_5
/-! CoilBench$Tokens.append(C)V -/
abbrev ws_X7_append (G : Gx) (q_this : Nat) (q_text : Nat) (q_kinds : Nat) (q_places : Nat) (q_values : Nat) (c_length : Int32) (c_size : Int32) (c_text : Nat → Int32) : va_W := [(q_this, eO 6 [.ref q_text, .int c_length, .ref q_kinds, .ref q_places, .ref q_values, .int c_size]), (q_text, eB G 4000 c_text)]
theorem mY_X7_append : vY yX7_append cX7_append 2 (none) 1 := ⟨W3_156, W1_3, ⟨by decide +kernel, by decide +kernel⟩, by decide +kernel⟩
theorem mI_X7_append : vYi yX7_append := ⟨W3_154, W3_155⟩
def f_X7_append (x1 : Int32) (c_length : Int32) (c_text : Nat → Int32) : Option (Int32 × (Nat → Int32)) := if (4000 : Int32) ≤ c_length then (some (c_length, c_text)) else (vlet ((xi2b x1)) fun t1 => if bad c_length 4000 = true then none else vlet (upd c_text c_length.toNatClampNeg (vp_nar .byte t1)) fun w3 => vlet ((c_length + (1 : Int32))) fun t4 => some (t4, w3))
set_option maxHeartbeats 4000000 in
set_option maxRecDepth 100000 in
theorem c_X7_append (G : Gx) (q_this : Nat) (q_text : Nat) (q_kinds : Nat) (q_places : Nat) (q_values : Nat) (c_length : Int32) (c_size : Int32) (c_text : Nat → Int32) (x1 : Int32) (R : Int32 × (Nat → Int32)) (hf : f_X7_append x1 c_length c_text = some R) : vM G yX7_append cX7_append 2 (none) 0 0 [.ref q_this, .int x1] (ws_X7_append G q_this q_text q_kinds q_places q_values c_length c_size c_text) none (ws_X7_append G q_this q_text q_kinds q_places q_values R.1 c_size R.2) := by
  refine vM_of (by decide +kernel) (Nat.le_of_ble_eq_true rfl) [(0, .ref q_this), (1, .int x1)] rfl (fun C hC hQ => ?_)
  have hC : vH G C cX7_append RX7 2 (none) { frames := 0, cells := 0, slots := 0, locals := 0 } := hC
  rw [f_X7_append] at hf
  refine g_aload_n (pc := 0) 0 hC dX7_append_0 rfl ?_
  refine g_get (pc := 1) 0 1 hC inX7 dX7_append_1 W1_41 rfl rfl (Nat.le_of_ble_eq_true rfl) rfl rfl ?_
  refine g_sipush (pc := 4) (4000 : Int32) hC dX7_append_4 rfl ?_
  refine g_icmp_ge (pc := 7) 31 hC dX7_append_7 (by decide) (fun hb => ?_) (fun hb => ?_)
  · replace hf := ite_t hf hb
    obtain rfl := Option.some.inj hf
    exact g_vret (pc := 31) hC hQ dX7_append_31
  · replace hf := ite_f hf hb
    refine g_aload_n (pc := 10) 0 hC dX7_append_10 rfl ?_
    refine g_get (pc := 11) 0 0 hC inX7 dX7_append_11 W1_40 rfl rfl (Nat.le_of_ble_eq_true rfl) rfl rfl ?_
    refine g_aload_n (pc := 14) 0 hC dX7_append_14 rfl ?_
    refine g_get (pc := 15) 0 1 hC inX7 dX7_append_15 W1_41 rfl rfl (Nat.le_of_ble_eq_true rfl) rfl rfl ?_
    refine g_iload_n (pc := 18) 1 hC dX7_append_18 rfl ?_
    refine g_i2b (pc := 19) hC dX7_append_19 ?_
    obtain ⟨t1, et1, hf⟩ := vlet_s hf
    refine g_nmi et1 ?_
    obtain ⟨h2, hf⟩ := bad_s hf
    obtain ⟨w3, ew3, hf⟩ := vlet_s hf
    refine g_bast (pc := 20) (ws2 := (ws_X7_append G q_this q_text q_kinds q_places q_values c_length c_size w3)) 1 hC dX7_append_20 rfl h2 ew3 rfl ?_
    refine g_aload_n (pc := 21) 0 hC dX7_append_21 rfl ?_
    refine g_dup (pc := 22) rfl hC dX7_append_22 ?_
    refine g_get (pc := 23) 0 1 hC inX7 dX7_append_23 W1_41 rfl rfl (Nat.le_of_ble_eq_true rfl) rfl rfl ?_
    refine g_iconst (pc := 26) (1 : Int32) hC dX7_append_26 rfl ?_
    refine g_iadd (pc := 27) hC dX7_append_27 ?_
    obtain ⟨t4, et4, hf⟩ := vlet_s hf
    refine g_nmi et4 ?_
    refine g_put (pc := 28) (ws2 := (ws_X7_append G q_this q_text q_kinds q_places q_values t4 c_size w3)) 0 1 hC inX7 tyX7_ok nmX7 dX7_append_28 W1_41 rfl rfl (Nat.le_of_ble_eq_true rfl) rfl rfl rfl rfl rfl (Nat.le_of_ble_eq_true rfl) rfl ?_
    obtain rfl := Option.some.inj hf
    exact g_vret (pc := 31) hC hQ dX7_append_31
/-! java/lang/Long.bitCount(J)I -/
abbrev ws_J13_bitCount_95d88 (G : Gx)  : va_W := []
theorem mY_J13_bitCount_95d88 : vY yJ13_bitCount_95d88 cJ13_bitCount_95d88 2 (some .int) 1 := ⟨W4_108, W1_19, ⟨by decide +kernel, by decide +kernel⟩, by decide +kernel⟩
def f_J13_bitCount_95d88 (x0 : Int64) : Option (Int32) := vlet ((x0 - ((xlushr x0 (1 : Int32)) &&& (6148914691236517205 : Int64)))) fun t1 => vlet (((t1 &&& (3689348814741910323 : Int64)) + ((xlushr t1 (2 : Int32)) &&& (3689348814741910323 : Int64)))) fun t2 => vlet (((t2 + (xlushr t2 (4 : Int32))) &&& (1085102592571150095 : Int64))) fun t3 => vlet ((t3 + (xlushr t3 (8 : Int32)))) fun t4 => vlet ((t4 + (xlushr t4 (16 : Int32)))) fun t5 => vlet ((t5 + (xlushr t5 (32 : Int32)))) fun t6 => some (t6.toInt32 &&& (127 : Int32))
set_option maxHeartbeats 4000000 in
set_option maxRecDepth 100000 in
theorem c_J13_bitCount_95d88 (G : Gx)  (x0 : Int64) (R : Int32) (hf : f_J13_bitCount_95d88 x0 = some R) : vM G yJ13_bitCount_95d88 cJ13_bitCount_95d88 2 (some .int) 0 0 [.long x0] (ws_J13_bitCount_95d88 G) (some (.int R)) (ws_J13_bitCount_95d88 G) := by
  refine vM_of (by decide +kernel) (Nat.le_of_ble_eq_true rfl) [(0, .long x0)] rfl (fun C hC hQ => ?_)
  have hC : vH G C cJ13_bitCount_95d88 RJ13 2 (some .int) { frames := 0, cells := 0, slots := 0, locals := 0 } := hC
  rw [f_J13_bitCount_95d88] at hf
  refine g_lload_n (pc := 0) 0 hC dJ13_bitCount_95d88_0 rfl ?_
  refine g_lload_n (pc := 1) 0 hC dJ13_bitCount_95d88_1 rfl ?_
  refine g_iconst (pc := 2) (1 : Int32) hC dJ13_bitCount_95d88_2 rfl ?_
  refine g_lushr (pc := 3) hC dJ13_bitCount_95d88_3 ?_
  refine g_ldc2 (pc := 4) hC dJ13_bitCount_95d88_4 W4_109 ?_
  refine g_land (pc := 7) hC dJ13_bitCount_95d88_7 ?_
  refine g_lsub (pc := 8) hC dJ13_bitCount_95d88_8 ?_
  obtain ⟨t1, et1, hf⟩ := vlet_s hf
  refine g_nml et1 ?_
  refine g_lstore_n (pc := 9) [(0, .long t1)] hC dJ13_bitCount_95d88_9 (Nat.le_of_ble_eq_true rfl) rfl ?_
  refine g_lload_n (pc := 10) 0 hC dJ13_bitCount_95d88_10 rfl ?_
  refine g_ldc2 (pc := 11) hC dJ13_bitCount_95d88_11 W4_110 ?_
  refine g_land (pc := 14) hC dJ13_bitCount_95d88_14 ?_
  refine g_lload_n (pc := 15) 0 hC dJ13_bitCount_95d88_15 rfl ?_
  refine g_iconst (pc := 16) (2 : Int32) hC dJ13_bitCount_95d88_16 rfl ?_
  refine g_lushr (pc := 17) hC dJ13_bitCount_95d88_17 ?_
  refine g_ldc2 (pc := 18) hC dJ13_bitCount_95d88_18 W4_110 ?_
  refine g_land (pc := 21) hC dJ13_bitCount_95d88_21 ?_
  refine g_ladd (pc := 22) hC dJ13_bitCount_95d88_22 ?_
  obtain ⟨t2, et2, hf⟩ := vlet_s hf
  refine g_nml et2 ?_
  refine g_lstore_n (pc := 23) [(0, .long t2)] hC dJ13_bitCount_95d88_23 (Nat.le_of_ble_eq_true rfl) rfl ?_
  refine g_lload_n (pc := 24) 0 hC dJ13_bitCount_95d88_24 rfl ?_
  refine g_lload_n (pc := 25) 0 hC dJ13_bitCount_95d88_25 rfl ?_
  refine g_iconst (pc := 26) (4 : Int32) hC dJ13_bitCount_95d88_26 rfl ?_
  refine g_lushr (pc := 27) hC dJ13_bitCount_95d88_27 ?_
  refine g_ladd (pc := 28) hC dJ13_bitCount_95d88_28 ?_
  refine g_ldc2 (pc := 29) hC dJ13_bitCount_95d88_29 W4_111 ?_
  refine g_land (pc := 32) hC dJ13_bitCount_95d88_32 ?_
  obtain ⟨t3, et3, hf⟩ := vlet_s hf
  refine g_nml et3 ?_
  refine g_lstore_n (pc := 33) [(0, .long t3)] hC dJ13_bitCount_95d88_33 (Nat.le_of_ble_eq_true rfl) rfl ?_
  refine g_lload_n (pc := 34) 0 hC dJ13_bitCount_95d88_34 rfl ?_
  refine g_lload_n (pc := 35) 0 hC dJ13_bitCount_95d88_35 rfl ?_
  refine g_bipush (pc := 36) (8 : Int32) hC dJ13_bitCount_95d88_36 rfl ?_
  refine g_lushr (pc := 38) hC dJ13_bitCount_95d88_38 ?_
  refine g_ladd (pc := 39) hC dJ13_bitCount_95d88_39 ?_
  obtain ⟨t4, et4, hf⟩ := vlet_s hf
  refine g_nml et4 ?_
  refine g_lstore_n (pc := 40) [(0, .long t4)] hC dJ13_bitCount_95d88_40 (Nat.le_of_ble_eq_true rfl) rfl ?_
  refine g_lload_n (pc := 41) 0 hC dJ13_bitCount_95d88_41 rfl ?_
  refine g_lload_n (pc := 42) 0 hC dJ13_bitCount_95d88_42 rfl ?_
  refine g_bipush (pc := 43) (16 : Int32) hC dJ13_bitCount_95d88_43 rfl ?_
  refine g_lushr (pc := 45) hC dJ13_bitCount_95d88_45 ?_
  refine g_ladd (pc := 46) hC dJ13_bitCount_95d88_46 ?_
  obtain ⟨t5, et5, hf⟩ := vlet_s hf
  refine g_nml et5 ?_
  refine g_lstore_n (pc := 47) [(0, .long t5)] hC dJ13_bitCount_95d88_47 (Nat.le_of_ble_eq_true rfl) rfl ?_
  refine g_lload_n (pc := 48) 0 hC dJ13_bitCount_95d88_48 rfl ?_
  refine g_lload_n (pc := 49) 0 hC dJ13_bitCount_95d88_49 rfl ?_
  refine g_bipush (pc := 50) (32 : Int32) hC dJ13_bitCount_95d88_50 rfl ?_
  refine g_lushr (pc := 52) hC dJ13_bitCount_95d88_52 ?_
  refine g_ladd (pc := 53) hC dJ13_bitCount_95d88_53 ?_
  obtain ⟨t6, et6, hf⟩ := vlet_s hf
  refine g_nml et6 ?_
  refine g_lstore_n (pc := 54) [(0, .long t6)] hC dJ13_bitCount_95d88_54 (Nat.le_of_ble_eq_true rfl) rfl ?_
  refine g_lload_n (pc := 55) 0 hC dJ13_bitCount_95d88_55 rfl ?_
  refine g_l2i (pc := 56) hC dJ13_bitCount_95d88_56 ?_
  refine g_bipush (pc := 57) (127 : Int32) hC dJ13_bitCount_95d88_57 rfl ?_
  refine g_iand (pc := 59) hC dJ13_bitCount_95d88_59 ?_
  obtain rfl := Option.some.inj hf
  exact g_iret (pc := 60) hC hQ dJ13_bitCount_95d88_60
