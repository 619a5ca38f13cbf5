/-! String constants: length() and charAt() of them -/
theorem g_sCoder {G : Gx} {C : Cx} {cc : ByteArray} {own : String} {nL : Nat} {ret : Option FieldType} {R0 : Room} {k n pc : Nat} {lv : List (Nat × Value)} {st : List Value} {ws : va_W} {i j : Nat} (hj : j < 22) (hC : vH G C cc own nL ret R0) (d : decode cc pc = .ok (.getfield i, 3)) (lk : Cond.fieldLink own i "java/lang/String" "coder" "B" ∈ TB) (K : vG G C k n (pc + 3) lv (.int 0 :: st) ws) : vG G C k n pc lv (.ref (sK G j) :: st) ws := by
  obtain ⟨p, e, R, s, m, args, below, meth, c, A, Q⟩ := C
  obtain ⟨hx, hb, hml, hown, hts, hr, hlk, hK, hA, hE, hR⟩ := hC
  intro H locs ls hP hD hS hl
  exact vk_getf hx hb (hE.2.2.2.2.1.1 j hj).2.1 hS hown (hts _ lk) (fun _ h9 => h9) d (K H locs ls hP hD hS hl)
theorem g_sValue {G : Gx} {C : Cx} {cc : ByteArray} {own : String} {nL : Nat} {ret : Option FieldType} {R0 : Room} {k n pc : Nat} {lv : List (Nat × Value)} {st : List Value} {ws : va_W} {i j : Nat} (hj : j < 22) (hC : vH G C cc own nL ret R0) (d : decode cc pc = .ok (.getfield i, 3)) (lk : Cond.fieldLink own i "java/lang/String" "value" "[B" ∈ TB) (K : vG G C k n (pc + 3) lv (.ref (sV G j) :: st) ws) : vG G C k n pc lv (.ref (sK G j) :: st) ws := by
  obtain ⟨p, e, R, s, m, args, below, meth, c, A, Q⟩ := C
  obtain ⟨hx, hb, hml, hown, hts, hr, hlk, hK, hA, hE, hR⟩ := hC
  intro H locs ls hP hD hS hl
  exact vk_getf hx hb (hE.2.2.2.2.1.1 j hj).2.2.1 hS hown (hts _ lk) (fun _ h9 => h9) d (K H locs ls hP hD hS hl)
theorem g_sLen {G : Gx} {C : Cx} {cc : ByteArray} {own : String} {nL : Nat} {ret : Option FieldType} {R0 : Room} {k n pc : Nat} {lv : List (Nat × Value)} {st : List Value} {ws : va_W} {j : Nat} (hj : j < 22) (hC : vH G C cc own nL ret R0) (d : decode cc pc = .ok (.arraylength, 1)) (K : vG G C k n (pc + 1) lv (.int (nI (sLe.getD j 0)) :: st) ws) : vG G C k n pc lv (.ref (sV G j) :: st) ws := by
  obtain ⟨p, e, R, s, m, args, below, meth, c, A, Q⟩ := C
  obtain ⟨hx, hb, hml, hown, hts, hr, hlk, hK, hA, hE, hR⟩ := hC
  intro H locs ls hP hD hS hl
  exact va_tlen hx hb (hE.2.2.2.2.1.1 j hj).2.2.2 hS rfl d (K H locs ls hP hD hS hl)
theorem g_sBald {G : Gx} {C : Cx} {cc : ByteArray} {own : String} {nL : Nat} {ret : Option FieldType} {R0 : Room} {k n pc : Nat} {lv : List (Nat × Value)} {st : List Value} {ws : va_W} {j : Nat} {i : Int32} (hj : j < 22) (hC : vH G C cc own nL ret R0) (d : decode cc pc = .ok (.baload, 1)) (hin : vp_in i (sLe.getD j 0)) (K : vG G C k n (pc + 1) lv (.int ((sBy.getD j []).getD i.toNatClampNeg 0) :: st) ws) : vG G C k n pc lv (.int i :: .ref (sV G j) :: st) ws := by
  obtain ⟨p, e, R, s, m, args, below, meth, c, A, Q⟩ := C
  obtain ⟨hx, hb, hml, hown, hts, hr, hlk, hK, hA, hE, hR⟩ := hC
  intro H locs ls hP hD hS hl
  exact va_tb hx hb (hE.2.2.2.2.1.1 j hj).2.2.2 hS hin rfl d (K H locs ls hP hD hS hl)
theorem g_sCS {G : Gx} {C : Cx} {cc : ByteArray} {own : String} {nL : Nat} {ret : Option FieldType} {R0 : Room} {k n pc : Nat} {lv : List (Nat × Value)} {st : List Value} {ws : va_W} {i : Nat} (hC : vH G C cc own nL ret R0) (d : decode cc pc = .ok (.getstatic i, 3)) (lk : Cond.fieldLink own i "java/lang/String" "COMPACT_STRINGS" "Z" ∈ TB) (K : vG G C k n (pc + 3) lv (.int 1 :: st) ws) : vG G C k n pc lv st ws := by
  obtain ⟨p, e, R, s, m, args, below, meth, c, A, Q⟩ := C
  obtain ⟨hx, hb, hml, hown, hts, hr, hlk, hK, hA, hE, hR⟩ := hC
  intro H locs ls hP hD hS hl
  exact va_gets hx hb hE.2.2.1 hS hown (hts _ lk) (fun _ h9 => h9) d (K H locs ls hP hD hS hl)
theorem g_sSI {G : Gx} {C : Cx} {cc : ByteArray} {own : String} {nL : Nat} {ret : Option FieldType} {R0 : Room} {k n pc : Nat} {lv : List (Nat × Value)} {st : List Value} {ws : va_W} {i : Nat} (hC : vH G C cc own nL ret R0) (d : decode cc pc = .ok (.getstatic i, 3)) (lk : Cond.fieldLink own i "jdk/internal/util/Preconditions" "SIOOBE_FORMATTER" "Ljava/util/function/BiFunction;" ∈ TB) (K : ∀ v : Value, (v = .null ∨ ∃ t, v = .ref t) → vG G C k n (pc + 3) lv (v :: st) ws) : vG G C k n pc lv st ws := by
  obtain ⟨p, e, R, s, m, args, below, meth, c, A, Q⟩ := C
  obtain ⟨hx, hb, hml, hown, hts, hr, hlk, hK, hA, hE, hR⟩ := hC
  intro H locs ls hP hD hS hl
  rcases hE.2.2.2.1 with h | ⟨t, h⟩
  · exact va_gets hx hb h hS hown (hts _ lk) (fun _ h9 => h9) d (K _ (Or.inl rfl) H locs ls hP hD hS hl)
  · exact va_gets hx hb h hS hown (hts _ lk) (fun _ h9 => h9) d (K _ (Or.inr ⟨t, rfl⟩) H locs ls hP hD hS hl)
theorem mY_J0_length_8abf5 : vY yJ0_length_8abf5 cJ0_length_8abf5 1 (some .int) 0 := ⟨W2_210, W1_14, ⟨by decide +kernel, by decide +kernel⟩, by decide +kernel⟩
theorem mI_J0_length_8abf5 : vYi yJ0_length_8abf5 := ⟨W2_208, W2_209⟩
theorem mY_J0_coder_7d493 : vY yJ0_coder_7d493 cJ0_coder_7d493 1 (some .byte) 0 := ⟨W2_214, W1_14, ⟨by decide +kernel, by decide +kernel⟩, by decide +kernel⟩
theorem mI_J0_coder_7d493 : vYi yJ0_coder_7d493 := ⟨W2_212, W2_213⟩
theorem mY_J0_charAt_5068e : vY yJ0_charAt_5068e cJ0_charAt_5068e 2 (some .char) 1 := ⟨W2_220, W1_14, ⟨by decide +kernel, by decide +kernel⟩, by decide +kernel⟩
theorem mI_J0_charAt_5068e : vYi yJ0_charAt_5068e := ⟨W2_218, W2_219⟩
theorem mY_J0_isLatin1_aae02 : vY yJ0_isLatin1_aae02 cJ0_isLatin1_aae02 1 (some .boolean) 0 := ⟨W2_224, W1_14, ⟨by decide +kernel, by decide +kernel⟩, by decide +kernel⟩
theorem mI_J0_isLatin1_aae02 : vYi yJ0_isLatin1_aae02 := ⟨W2_222, W2_223⟩
theorem mY_J1_charAt_3b067 : vY yJ1_charAt_3b067 cJ1_charAt_3b067 2 (some .char) 2 := ⟨W2_227, W1_15, ⟨by decide +kernel, by decide +kernel⟩, by decide +kernel⟩
theorem mY_J0_checkIndex_df160 : vY yJ0_checkIndex_df160 cJ0_checkIndex_df160 2 (none) 2 := ⟨W2_230, W1_14, ⟨by decide +kernel, by decide +kernel⟩, by decide +kernel⟩
theorem mY_J3_checkIndex_8e157 : vY yJ3_checkIndex_8e157 cJ3_checkIndex_8e157 3 (some .int) 3 := ⟨W2_235, W1_16, ⟨by decide +kernel, by decide +kernel⟩, by decide +kernel⟩
theorem c_J0_coder_7d493 (G : Gx) (j : Nat) (hj : j < 22) : vM G yJ0_coder_7d493 cJ0_coder_7d493 1 (some .byte) 0 0 [.ref (sK G j)] [] (some (.int 0)) [] := by
  refine vM_of (by decide +kernel) (Nat.le_of_ble_eq_true rfl) [(0, .ref (sK G j))] rfl (fun C hC hQ => ?_)
  have hC : vH G C cJ0_coder_7d493 RJ0 1 (some .byte) { frames := 0, cells := 0, slots := 0, locals := 0 } := hC
  refine g_sCS (pc := 0) hC dJ0_coder_7d493_0 W2_215 ?_
  refine g_if_eq (pc := 3) 13 hC dJ0_coder_7d493_3 (by decide) (fun hb => absurd hb (by decide)) (fun hb => ?_)
  refine g_aload_n (pc := 6) 0 hC dJ0_coder_7d493_6 rfl ?_
  refine g_sCoder (pc := 7) hj hC dJ0_coder_7d493_7 W6_169 ?_
  refine g_goto (pc := 10) 14 hC dJ0_coder_7d493_10 (by decide) ?_
  exact g_zret (pc := 14) hC rfl hQ dJ0_coder_7d493_14
theorem c_J0_isLatin1_aae02 (G : Gx) (j : Nat) (hj : j < 22) : vM G yJ0_isLatin1_aae02 cJ0_isLatin1_aae02 1 (some .boolean) 0 0 [.ref (sK G j)] [] (some (.int 1)) [] := by
  refine vM_of (by decide +kernel) (Nat.le_of_ble_eq_true rfl) [(0, .ref (sK G j))] rfl (fun C hC hQ => ?_)
  have hC : vH G C cJ0_isLatin1_aae02 RJ0 1 (some .boolean) { frames := 0, cells := 0, slots := 0, locals := 0 } := hC
  refine g_sCS (pc := 0) hC dJ0_isLatin1_aae02_0 W2_215 ?_
  refine g_if_eq (pc := 3) 17 hC dJ0_isLatin1_aae02_3 (by decide) (fun hb => absurd hb (by decide)) (fun hb => ?_)
  refine g_aload_n (pc := 6) 0 hC dJ0_isLatin1_aae02_6 rfl ?_
  refine g_sCoder (pc := 7) hj hC dJ0_isLatin1_aae02_7 W6_169 ?_
  refine g_if_ne (pc := 10) 17 hC dJ0_isLatin1_aae02_10 (by decide) (fun hb => absurd rfl hb) (fun hb => ?_)
  refine g_iconst (pc := 13) (1 : Int32) hC dJ0_isLatin1_aae02_13 rfl ?_
  refine g_goto (pc := 14) 18 hC dJ0_isLatin1_aae02_14 (by decide) ?_
  exact g_zret (pc := 18) hC rfl hQ dJ0_isLatin1_aae02_18
theorem c_J0_length_8abf5 (G : Gx) (j : Nat) (hj : j < 22) : vM G yJ0_length_8abf5 cJ0_length_8abf5 1 (some .int) 1 20 [.ref (sK G j)] [] (some (.int (nI (sLe.getD j 0)))) [] := by
  refine vM_of (by decide +kernel) (Nat.le_of_ble_eq_true rfl) [(0, .ref (sK G j))] rfl (fun C hC hQ => ?_)
  have hC : vH G C cJ0_length_8abf5 RJ0 1 (some .int) { frames := 1, cells := 0, slots := 0, locals := 20 } := hC
  refine g_aload_n (pc := 0) 0 hC dJ0_length_8abf5_0 rfl ?_
  refine g_sValue (pc := 1) hj hC dJ0_length_8abf5_1 W6_168 ?_
  refine g_sLen (pc := 4) hj hC dJ0_length_8abf5_4 ?_
  refine g_aload_n (pc := 5) 0 hC dJ0_length_8abf5_5 rfl ?_
  refine g_callTi (pc := 6) (st := [.int (nI (sLe.getD j 0))]) (wc2 := []) (ws2 := []) [] hj hC (c_J0_coder_7d493 G j hj) mY_J0_coder_7d493 mI_J0_coder_7d493 W2_211 dJ0_length_8abf5_6 rfl rfl rfl rfl rfl rfl rfl ⟨Nat.le_of_ble_eq_true rfl, Nat.le_of_ble_eq_true rfl⟩ ⟨Nat.le_refl 0, Nat.le_refl 0⟩ (Nat.le_of_ble_eq_true rfl) ?_
  refine g_ishr (pc := 9) hC dJ0_length_8abf5_9 ?_
  refine g_nmi (y := nI (sLe.getD j 0)) (sb_shr0 _).symm ?_
  exact g_iret (pc := 10) hC hQ dJ0_length_8abf5_10
theorem c_J3_checkIndex_8e157 (G : Gx) (i n : Int32) (v : Value) (hv : v = .null ∨ ∃ t, v = .ref t) (h0 : ¬ i < 0) (h1 : i < n) : vM G yJ3_checkIndex_8e157 cJ3_checkIndex_8e157 3 (some .int) 0 0 [.int i, .int n, v] [] (some (.int i)) [] := by
  refine vM_of (by decide +kernel) ?_ [(0, .int i), (1, .int n), (2, v)] ?_ (fun C hC hQ => ?_)
  · rcases hv with rfl | ⟨t, rfl⟩ <;> exact Nat.le_of_ble_eq_true rfl
  · rcases hv with rfl | ⟨t, rfl⟩ <;> rfl
  have hC : vH G C cJ3_checkIndex_8e157 RJ3 3 (some .int) { frames := 0, cells := 0, slots := 0, locals := 0 } := hC
  refine g_iload_n (pc := 0) 0 hC dJ3_checkIndex_8e157_0 rfl ?_
  refine g_if_lt (pc := 1) 9 hC dJ3_checkIndex_8e157_1 (by decide) (fun hb => absurd hb h0) (fun hb => ?_)
  refine g_iload_n (pc := 4) 0 hC dJ3_checkIndex_8e157_4 rfl ?_
  refine g_iload_n (pc := 5) 1 hC dJ3_checkIndex_8e157_5 rfl ?_
  refine g_icmp_lt (pc := 6) 16 hC dJ3_checkIndex_8e157_6 (by decide) (fun hb => ?_) (fun hb => absurd h1 hb)
  refine g_iload_n (pc := 16) 0 hC dJ3_checkIndex_8e157_16 rfl ?_
  exact g_iret (pc := 17) hC hQ dJ3_checkIndex_8e157_17
theorem c_J0_checkIndex_df160 (G : Gx) (i n : Int32) (h0 : ¬ i < 0) (h1 : i < n) : vM G yJ0_checkIndex_df160 cJ0_checkIndex_df160 2 (none) 1 22 [.int i, .int n] [] none [] := by
  refine vM_of (by decide +kernel) (Nat.le_of_ble_eq_true rfl) [(0, .int i), (1, .int n)] rfl (fun C hC hQ => ?_)
  have hC : vH G C cJ0_checkIndex_df160 RJ0 2 (none) { frames := 1, cells := 0, slots := 0, locals := 22 } := hC
  refine g_iload_n (pc := 0) 0 hC dJ0_checkIndex_df160_0 rfl ?_
  refine g_iload_n (pc := 1) 1 hC dJ0_checkIndex_df160_1 rfl ?_
  refine g_sSI (pc := 2) hC dJ0_checkIndex_df160_2 W2_231 (fun v hv => ?_)
  refine g_callSi (pc := 5) (st := []) (wc2 := []) (ws2 := []) [] hC (c_J3_checkIndex_8e157 G i n v hv h0 h1) mY_J3_checkIndex_8e157 W2_234 W2_233 dJ0_checkIndex_df160_5 rfl rfl rfl rfl rfl rfl ⟨Nat.le_of_ble_eq_true rfl, Nat.le_of_ble_eq_true rfl⟩ ⟨Nat.le_refl 0, Nat.le_refl 0⟩ (Nat.le_of_ble_eq_true rfl) ?_
  refine g_pop (pc := 8) rfl hC dJ0_checkIndex_df160_8 ?_
  exact g_vret (pc := 9) hC hQ dJ0_checkIndex_df160_9
def sCh (j : Nat) (i : Int32) : Int32 := (sBy.getD j []).getD i.toNatClampNeg 0 &&& 255
theorem sLe_lt : ∀ j, j < 22 → sLe.getD j 0 < 2 ^ 31 := by decide +kernel
theorem vp_in_lt {i : Int32} {n : Nat} (hn : n < 2 ^ 31) (h : vp_in i n) : ¬ i < 0 ∧ i < nI n := by
  obtain ⟨j, hj, rfl⟩ := vp_in_of h hn
  exact ⟨nI_pos (by omega), nI_lt hj hn⟩
theorem c_J1_charAt_3b067 (G : Gx) (j : Nat) (hj : j < 22) (i : Int32) (hi : vp_in i (sLe.getD j 0)) : vM G yJ1_charAt_3b067 cJ1_charAt_3b067 2 (some .char) 2 43 [.ref (sV G j), .int i] [] (some (.int (sCh j i))) [] := by
  refine vM_of (by decide +kernel) (Nat.le_of_ble_eq_true rfl) [(0, .ref (sV G j)), (1, .int i)] rfl (fun C hC hQ => ?_)
  have hC : vH G C cJ1_charAt_3b067 RJ1 2 (some .char) { frames := 2, cells := 0, slots := 0, locals := 43 } := hC
  obtain ⟨h0, h1⟩ := vp_in_lt (sLe_lt j hj) hi
  refine g_iload_n (pc := 0) 1 hC dJ1_charAt_3b067_0 rfl ?_
  refine g_aload_n (pc := 1) 0 hC dJ1_charAt_3b067_1 rfl ?_
  refine g_sLen (pc := 2) hj hC dJ1_charAt_3b067_2 ?_
  refine g_callSv (pc := 3) (st := []) (wc2 := []) (ws2 := []) [] hC (c_J0_checkIndex_df160 G i (nI (sLe.getD j 0)) h0 h1) mY_J0_checkIndex_df160 W2_229 W2_228 dJ1_charAt_3b067_3 rfl rfl rfl rfl rfl rfl ⟨Nat.le_of_ble_eq_true rfl, Nat.le_of_ble_eq_true rfl⟩ ⟨Nat.le_refl 0, Nat.le_refl 0⟩ (Nat.le_of_ble_eq_true rfl) ?_
  refine g_aload_n (pc := 6) 0 hC dJ1_charAt_3b067_6 rfl ?_
  refine g_iload_n (pc := 7) 1 hC dJ1_charAt_3b067_7 rfl ?_
  refine g_sBald (pc := 8) hj hC dJ1_charAt_3b067_8 hi ?_
  refine g_sipush (pc := 9) (255 : Int32) hC dJ1_charAt_3b067_9 rfl ?_
  refine g_iand (pc := 12) hC dJ1_charAt_3b067_12 ?_
  refine g_i2c (pc := 13) hC dJ1_charAt_3b067_13 ?_
  refine g_nmi (y := sCh j i) (sc_c2 _).symm ?_
  exact g_zret (pc := 14) hC (sc_nar _) hQ dJ1_charAt_3b067_14
theorem c_J0_charAt_5068e (G : Gx) (j : Nat) (hj : j < 22) (i : Int32) (hi : vp_in i (sLe.getD j 0)) : vM G yJ0_charAt_5068e cJ0_charAt_5068e 2 (some .char) 3 64 [.ref (sK G j), .int i] [] (some (.int (sCh j i))) [] := by
  refine vM_of (by decide +kernel) (Nat.le_of_ble_eq_true rfl) [(0, .ref (sK G j)), (1, .int i)] rfl (fun C hC hQ => ?_)
  have hC : vH G C cJ0_charAt_5068e RJ0 2 (some .char) { frames := 3, cells := 0, slots := 0, locals := 64 } := hC
  refine g_aload_n (pc := 0) 0 hC dJ0_charAt_5068e_0 rfl ?_
  refine g_callTi (pc := 1) (st := []) (wc2 := []) (ws2 := []) [] hj hC (c_J0_isLatin1_aae02 G j hj) mY_J0_isLatin1_aae02 mI_J0_isLatin1_aae02 W2_221 dJ0_charAt_5068e_1 rfl rfl rfl rfl rfl rfl rfl ⟨Nat.le_of_ble_eq_true rfl, Nat.le_of_ble_eq_true rfl⟩ ⟨Nat.le_refl 0, Nat.le_refl 0⟩ (Nat.le_of_ble_eq_true rfl) ?_
  refine g_if_eq (pc := 4) 16 hC dJ0_charAt_5068e_4 (by decide) (fun hb => absurd hb (by decide)) (fun hb => ?_)
  refine g_aload_n (pc := 7) 0 hC dJ0_charAt_5068e_7 rfl ?_
  refine g_sValue (pc := 8) hj hC dJ0_charAt_5068e_8 W6_168 ?_
  refine g_iload_n (pc := 11) 1 hC dJ0_charAt_5068e_11 rfl ?_
  refine g_callSi (pc := 12) (st := []) (wc2 := []) (ws2 := []) [] hC (c_J1_charAt_3b067 G j hj i hi) mY_J1_charAt_3b067 W2_226 W2_225 dJ0_charAt_5068e_12 rfl rfl rfl rfl rfl rfl ⟨Nat.le_of_ble_eq_true rfl, Nat.le_of_ble_eq_true rfl⟩ ⟨Nat.le_refl 0, Nat.le_refl 0⟩ (Nat.le_of_ble_eq_true rfl) ?_
  exact g_zret (pc := 15) hC (sc_nar _) hQ dJ0_charAt_5068e_15
