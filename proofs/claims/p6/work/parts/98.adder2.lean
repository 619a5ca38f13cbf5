/-! the class's adder: its rows -/
set_option maxHeartbeats 400000 in
theorem s_X7_append (x1 : Int32) (c_length : Int32) (c_text : Nat → Int32) (l : List Nat) (h : CT l c_length c_text) (hl : l.length < 4000) (hb : 0 ≤ x1.toInt) (hb2 : x1.toInt < 128) : Ok (f_X7_append x1 c_length c_text) (fun r => CT (l ++ [x1.toInt.toNat]) r.1 r.2) := by
  unfold f_X7_append
  have h1 := h.1
  rw [if_neg (by rw [tI_le, show (4000 : Int32).toInt = 4000 from by decide]; omega)]
  have e : xi2b x1 = x1 := i2b_id (by omega) hb2
  rw [e]
  have nb : vp_nar .byte x1 = x1 := by
    rw [nar_byte]
    exact e
  refine ok_vlet (ok_bad (by omega) (ok_vlet (ok_vlet ?_)))
  rw [nb, tI_nat]
  exact ok_some (CT_push h hl hb)
set_option maxHeartbeats 400000 in
theorem i2c_0 : ∀ i, i < 9 → xi2c ((48 : Int32) + Int32.ofNat i) = Int32.ofNat (48 + i) := by decide +kernel
set_option maxHeartbeats 400000 in
theorem i2c_1 : ∀ i, i < 9 → xi2c (((48 : Int32) + Int32.ofNat i) + 1) = Int32.ofNat (49 + i) := by decide +kernel
set_option maxHeartbeats 400000 in
theorem pat_ok : ∀ j, j < 22 → (sBy.getD j []).length = sLe.getD j 0 ∧ (sBy.getD j []).all (fun c => decide (c &&& 255 = c) && (decide (0 ≤ c.toInt) && decide (c.toInt < 128))) = true := by decide +kernel
set_option maxHeartbeats 400000 in
theorem s_app_2 (j1 : Nat) (hj : j1 < 22) (i : Nat) (hi : i ≤ 7) (P : List Int32) (hP : P = sBy.getD j1 []) : ∀ (n : Nat) (x2 : Int32) (x3 : Int32) (c_p0_length : Int32) (c_p0_text : Nat → Int32) (k : Nat) (l : List Nat), x2 = Int32.ofNat i → x3.toInt = k → k ≤ P.length → P.length - k < n → CT l c_p0_length c_p0_text → l.length + (P.length - k) ≤ 4000 → Ok (f_X0_append_2 j1 n x2 x3 c_p0_length c_p0_text) (fun r => CT (l ++ (P.drop k).map (patB i)) r.1 r.2)
  | 0, x2, x3, c_p0_length, c_p0_text, k, l, h2, h3, hk, hn, h, hl => absurd hn (Nat.not_lt_zero _)
  | n + 1, x2, x3, c_p0_length, c_p0_text, k, l, h2, h3, hk, hn, h, hl => by
    unfold f_X0_append_2
    obtain ⟨p1, p2⟩ := pat_ok j1 hj
    rw [← hP] at p1 p2
    have hlt := sLe_lt j1 hj
    rw [← p1] at hlt ⊢
    have en : (nI P.length).toInt = P.length := Int32.toInt_ofNat_of_lt hlt
    refine ok_if (fun q => ?_) (fun q => ?_)
    · rw [tI_le, en] at q
      have : k = P.length := by omega
      rw [this, List.drop_length, List.map_nil, List.append_nil]
      exact ok_some h
    · rw [tI_le, en] at q
      have hk2 : k < P.length := by omega
      refine ok_bad (by omega) (ok_vlet ?_)
      have ek : x3.toNatClampNeg = k := by rw [tI_nat]; omega
      have ec : sCh j1 x3 = P[k] := by
        unfold sCh
        rw [← hP, ek]
        have : P.getD k 0 = P[k] := by rw [List.getD_eq_getElem?_getD, List.getElem?_eq_getElem hk2]; rfl
        rw [this]
        have m := List.all_eq_true.mp p2 P[k] (List.getElem_mem hk2)
        rw [Bool.and_eq_true, decide_eq_true_eq] at m
        exact m.1
      have m := List.all_eq_true.mp p2 P[k] (List.getElem_mem hk2)
      rw [Bool.and_eq_true, Bool.and_eq_true, decide_eq_true_eq, decide_eq_true_eq, decide_eq_true_eq] at m
      have ed : (P.drop k).map (patB i) = patB i P[k] :: (P.drop (k + 1)).map (patB i) := by
        rw [List.drop_eq_getElem_cons hk2]; rfl
      rw [ec, ed]
      have e3 : (x3 + 1).toInt = ((k + 1 : Nat) : Int) := by ((try simp only [tI_lt, tI_le, tI_eq, tI_add, tI_sub, tI_mul, tI_nat, Int32.reduceToInt, Int.reduceToNat, fe_0, fe_1, fe_2, fe_3, fe_4, fe_5]) <;> (try simp (disch := omega) only [tI_bm]) <;> omega)
      have on : ∀ (b : Nat) (r : Int32 × (Nat → Int32)), patB i P[k] = b → CT (l ++ [b]) r.1 r.2 → Ok (f_X0_append_63 (f_X0_append_2 j1 n) j1 x2 x3 r.1 r.2) (fun r => CT (l ++ patB i P[k] :: (P.drop (k + 1)).map (patB i)) r.1 r.2) := by
        intro b r hb hr
        unfold f_X0_append_63
        have ea : l ++ patB i P[k] :: (P.drop (k + 1)).map (patB i) = (l ++ [b]) ++ (P.drop (k + 1)).map (patB i) := by
          rw [List.append_assoc, hb]; rfl
        rw [ea]
        exact ok_vlet (s_app_2 j1 hj i hi P hP n _ _ _ _ (k + 1) _ h2 e3 hk2 (by omega) hr (by rw [List.length_append]; show l.length + 1 + _ ≤ 4000; omega))
      refine ok_if (fun c => ?_) (fun c => ok_if (fun d => ?_) (fun d => ?_))
      · rw [h2, i2c_0 i (by omega)]
        have e : (Int32.ofNat (48 + i)).toInt = ((48 + i : Nat) : Int) := Int32.toInt_ofNat_of_lt (by omega)
        refine ok_bind (s_X7_append (Int32.ofNat (48 + i)) c_p0_length c_p0_text l h (by omega) (by omega) (by omega)) (fun r hr => ?_)
        rw [e] at hr
        rw [← h2]
        exact on (48 + i) r (by unfold patB; rw [if_pos c]) hr
      · rw [h2, i2c_1 i (by omega)]
        have e : (Int32.ofNat (49 + i)).toInt = ((49 + i : Nat) : Int) := Int32.toInt_ofNat_of_lt (by omega)
        refine ok_bind (s_X7_append (Int32.ofNat (49 + i)) c_p0_length c_p0_text l h (by omega) (by omega) (by omega)) (fun r hr => ?_)
        rw [e] at hr
        rw [← h2]
        exact on (49 + i) r (by unfold patB; rw [if_neg c, if_pos d]) hr
      · refine ok_bind (s_X7_append P[k] c_p0_length c_p0_text l h (by omega) m.2.1 m.2.2) (fun r hr => ?_)
        exact on _ r (by unfold patB; rw [if_neg c, if_neg d, m.1]) hr
set_option maxHeartbeats 400000 in
theorem s_append (j i : Nat) (hj : j < 22) (hi : i ≤ 7) (x2 : Int32) (hx : x2 = Int32.ofNat i) (c_p0_length : Int32) (c_p0_text : Nat → Int32) (l : List Nat) (h : CT l c_p0_length c_p0_text) (hl : l.length + sLe.getD j 0 ≤ 4000) : Ok (f_X0_append j x2 c_p0_length c_p0_text) (fun r => CT (l ++ patL i j) r.1 r.2) := by
  unfold f_X0_append
  have p1 := (pat_ok j hj).1
  have hlt := sLe_lt j hj
  have hs : sLe.getD j 0 ≤ 100 := by
    have : ∀ j, j < 22 → sLe.getD j 0 ≤ 100 := by decide +kernel
    exact this j hj
  have := s_app_2 j hj i hi (sBy.getD j []) rfl FU x2 0 c_p0_length c_p0_text 0 l hx (by decide) (Nat.zero_le _) (by rw [FU_eq, p1]; omega) h (by rw [p1]; omega)
  rw [List.drop_zero] at this
  exact this
def adB : Nat → List Nat
  | 0 => []
  | n + 1 => adB n ++ bitL n
def adT (n : Nat) : List Nat := adB n ++ endL n
set_option maxHeartbeats 400000 in
theorem bitL_len : ∀ i, i < 8 → (bitL i).length = 448 := by decide +kernel
set_option maxHeartbeats 400000 in
theorem endL_len : ∀ i, i < 8 → (endL i).length = 31 := by decide +kernel
set_option maxHeartbeats 400000 in
theorem adB_len : ∀ n, n ≤ 8 → (adB n).length = 448 * n
  | 0, _ => rfl
  | n + 1, h => by
    show (adB n ++ bitL n).length = _
    rw [List.length_append, adB_len n (by omega), bitL_len n (by omega)]
    omega
set_option maxHeartbeats 400000 in
theorem s_write_6 : ∀ (n : Nat) (x1 : Int32) (x2 : Int32) (c_p0_length : Int32) (c_p0_text : Nat → Int32) (m i : Nat), x1 = Int32.ofNat m → m ≤ 7 → x2 = Int32.ofNat i → i ≤ m → m - i < n → CT (adB i) c_p0_length c_p0_text → Ok (f_X0_write_6 n x1 x2 c_p0_length c_p0_text) (fun r => CT (adT m) r.1 r.2)
  | 0, x1, x2, c_p0_length, c_p0_text, m, i, h1, hm, h2, hi, hn, h => absurd hn (Nat.not_lt_zero _)
  | n + 1, x1, x2, c_p0_length, c_p0_text, m, i, h1, hm, h2, hi, hn, h => by
    unfold f_X0_write_6
    have e1 : x1.toInt = m := by rw [h1]; exact Int32.toInt_ofNat_of_lt (by omega)
    have e2 : x2.toInt = i := by rw [h2]; exact Int32.toInt_ofNat_of_lt (by omega)
    have hl := adB_len i (by omega)
    refine ok_if (fun q => ?_) (fun q => ?_)
    · rw [tI_le] at q
      have : i = m := by omega
      subst this
      refine ok_bind (s_append 20 i (by decide) hm x1 h1 _ _ _ h (by rw [hl, show sLe.getD 20 0 = 16 from rfl]; omega)) (fun r1 q1 => ok_bind (s_append 21 i (by decide) hm x1 h1 _ _ _ q1 (by
        rw [List.length_append, hl, show sLe.getD 21 0 = 15 from rfl]
        have : (patL i 20).length = 16 := by unfold patL; rw [List.length_map]; rfl
        omega)) (fun r2 q2 => ok_some ?_))
      show CT (adB i ++ endL i) r2.1 r2.2
      unfold endL
      rw [← List.append_assoc]
      exact q2
    · rw [tI_le] at q
      have pl : ∀ j, j < 22 → (patL i j).length = sLe.getD j 0 := fun j hj => by
        unfold patL; rw [List.length_map]; exact (pat_ok j hj).1
      have ee : (x2 + 1).toInt = i + 1 := by ((try simp only [tI_lt, tI_le, tI_eq, tI_add, tI_sub, tI_mul, tI_nat, Int32.reduceToInt, Int.reduceToNat, fe_0, fe_1, fe_2, fe_3, fe_4, fe_5]) <;> (try simp (disch := omega) only [tI_bm]) <;> omega)
      have e3 : x2 + 1 = Int32.ofNat (i + 1) := Int32.toInt_inj.mp (by rw [Int32.toInt_ofNat_of_lt (show i + 1 < 2 ^ 31 by omega)]; exact ee)
      have l10 := pl 10 (by decide)
      have l11 := pl 11 (by decide)
      have l12 := pl 12 (by decide)
      have l13 := pl 13 (by decide)
      have l14 := pl 14 (by decide)
      have l15 := pl 15 (by decide)
      have l16 := pl 16 (by decide)
      have l17 := pl 17 (by decide)
      have l18 := pl 18 (by decide)
      have l19 := pl 19 (by decide)
      have s10 : sLe.getD 10 0 = 14 := rfl
      have s11 : sLe.getD 11 0 = 43 := rfl
      have s12 : sLe.getD 12 0 = 43 := rfl
      have s13 : sLe.getD 13 0 = 8 := rfl
      have s14 : sLe.getD 14 0 = 55 := rfl
      have s15 : sLe.getD 15 0 = 58 := rfl
      have s16 : sLe.getD 16 0 = 42 := rfl
      have s17 : sLe.getD 17 0 = 68 := rfl
      have s18 : sLe.getD 18 0 = 40 := rfl
      have s19 : sLe.getD 19 0 = 61 := rfl
      have s20 : sLe.getD 20 0 = 16 := rfl
      have hi7 : i ≤ 7 := by omega
      refine ok_bind (s_append 10 i (by decide) hi7 x2 h2 _ _ _ h (by omega)) (fun r3 q3 => ?_)
      refine ok_bind (s_append 11 i (by decide) hi7 x2 h2 _ _ _ q3 (by simp only [List.length_append]; omega)) (fun r4 q4 => ?_)
      refine ok_bind (s_append 12 i (by decide) hi7 x2 h2 _ _ _ q4 (by simp only [List.length_append]; omega)) (fun r5 q5 => ?_)
      refine ok_bind (s_append 13 i (by decide) hi7 x2 h2 _ _ _ q5 (by simp only [List.length_append]; omega)) (fun r6 q6 => ?_)
      refine ok_bind (s_append 14 i (by decide) hi7 x2 h2 _ _ _ q6 (by simp only [List.length_append]; omega)) (fun r7 q7 => ?_)
      refine ok_bind (s_append 15 i (by decide) hi7 x2 h2 _ _ _ q7 (by simp only [List.length_append]; omega)) (fun r8 q8 => ?_)
      refine ok_bind (s_append 16 i (by decide) hi7 x2 h2 _ _ _ q8 (by simp only [List.length_append]; omega)) (fun r9 q9 => ?_)
      refine ok_bind (s_append 17 i (by decide) hi7 x2 h2 _ _ _ q9 (by simp only [List.length_append]; omega)) (fun r10 q10 => ?_)
      refine ok_bind (s_append 18 i (by decide) hi7 x2 h2 _ _ _ q10 (by simp only [List.length_append]; omega)) (fun r11 q11 => ?_)
      refine ok_bind (s_append 19 i (by decide) hi7 x2 h2 _ _ _ q11 (by simp only [List.length_append]; omega)) (fun r12 q12 => ?_)
      refine ok_bind (s_append 20 i (by decide) hi7 x2 h2 _ _ _ q12 (by simp only [List.length_append]; omega)) (fun r13 q13 => ok_vlet ?_)
      refine s_write_6 n _ _ _ _ m (i + 1) h1 hm e3 (by omega) (by omega) ?_
      show CT (adB i ++ bitL i) r13.1 r13.2
      unfold bitL
      simp only [List.append_assoc] at q13
      exact q13
set_option maxHeartbeats 400000 in
theorem s_write (x1 : Int32) (c_p0_length : Int32) (c_p0_text : Nat → Int32) (m : Nat) (h1 : x1 = Int32.ofNat m) (hm : m ≤ 7) : Ok (f_X0_write x1 c_p0_length c_p0_text) (fun r => CT (adT m) r.1 r.2) := by
  unfold f_X0_write f_X7_clear
  refine ok_bind (P := fun r => r = 0) (ok_some rfl) (fun r hr => ?_)
  rw [hr]
  exact s_write_6 FU _ _ _ _ m 0 h1 hm rfl (Nat.zero_le _) (by rw [FU_eq]; omega) ⟨rfl, fun i hi => absurd hi (Nat.not_lt_zero _)⟩
