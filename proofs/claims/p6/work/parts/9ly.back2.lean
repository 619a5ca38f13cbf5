/-! back and key on both sides -/
set_option maxHeartbeats 400000 in
theorem m_back_38 (c_past : Nat → Int32) (b kp lt n9 : Nat) (hb : b < 100) (hkp : kp ≤ 100) (hlt : lt < 100) (hn9 : 1 ≤ n9 ∧ n9 ≤ kp) (s0 : Nat → Int32) : ∀ (n : Nat) (x1 : Int32) (x2 : Int32) (x3 : Int32) (c_kept : Int32) (c_latest : Int32) (c_state : Nat → Int32) (k : Nat), x1.toInt = n9 → x2.toInt = b → x3.toInt = k → k ≤ 345 → c_kept.toInt = kp → c_latest.toInt = lt → (∀ i, i < k → c_state i = c_past (345 * b + i)) → (∀ i, k ≤ i → c_state i = s0 i) → Pc (f_X11_back_38 c_past n x1 x2 x3 c_kept c_latest c_state) (fun r => r.1 = c_past (345 * b + 344) ∧ r.2.1.toInt = kp - n9 ∧ r.2.2.1.toInt = ((lt + 100 - n9) % 100 : Nat) ∧ ∀ i, i < 345 → r.2.2.2 i = c_past (345 * b + i))
  | 0, x1, x2, x3, c_kept, c_latest, c_state, k, h0, h1, h2, h3, h4, h5, hI, hJ => pc_none
  | n + 1, x1, x2, x3, c_kept, c_latest, c_state, k, h0, h1, h2, h3, h4, h5, hI, hJ => by
    unfold f_X11_back_38
    have e100 : (100 : Int32).toInt = 100 := by decide
    refine pc_if (fun a => pc_vlet (pc_vlet (pc_bad (fun _ => pc_some ?_)))) (fun a => ?_)
    · rw [tI_le, l_345] at a
      have ea : (c_latest + 100 - x1).toInt = lt + 100 - n9 := by ((try simp only [tI_lt, tI_le, tI_eq, tI_add, tI_sub, tI_mul, tI_nat, Int32.reduceToInt, Int.reduceToNat, fe_0, fe_1, fe_2, fe_3, fe_4, fe_5]) <;> (try simp (disch := omega) only [tI_bm]) <;> omega)
      refine ⟨?_, ?_, ?_, fun i hi => hI i (by omega)⟩
      · show c_state (344 : Int32).toNatClampNeg = _
        rw [show (344 : Int32).toNatClampNeg = 344 from by decide]
        exact hI 344 (by omega)
      · show (c_kept - x1).toInt = _
        ((try simp only [tI_lt, tI_le, tI_eq, tI_add, tI_sub, tI_mul, tI_nat, Int32.reduceToInt, Int.reduceToNat, fe_0, fe_1, fe_2, fe_3, fe_4, fe_5]) <;> (try simp (disch := omega) only [tI_bm]) <;> omega)
      · show (xrem (c_latest + 100 - x1) 100).toInt = _
        rw [tI_rem (by omega) (by decide), ea, e100]
        omega
    · rw [tI_le, l_345] at a
      have ek : x3.toNatClampNeg = k := by rw [tI_nat]; omega
      have eb : (345 * x2 + x3).toNatClampNeg = 345 * b + k := by
        have : (345 * x2 + x3).toInt = 345 * b + k := by ((try simp only [tI_lt, tI_le, tI_eq, tI_add, tI_sub, tI_mul, tI_nat, Int32.reduceToInt, Int.reduceToNat, fe_0, fe_1, fe_2, fe_3, fe_4, fe_5]) <;> (try simp (disch := omega) only [tI_bm]) <;> omega)
        rw [tI_nat, this]; omega
      refine pc_bad (fun _ => pc_vlet (pc_bad (fun _ => pc_vlet (pc_vlet ?_))))
      rw [eb, ek]
      refine m_back_38 c_past b kp lt n9 hb hkp hlt hn9 s0 n _ _ _ _ _ _ (k + 1) h0 h1 (by ((try simp only [tI_lt, tI_le, tI_eq, tI_add, tI_sub, tI_mul, tI_nat, Int32.reduceToInt, Int.reduceToNat, fe_0, fe_1, fe_2, fe_3, fe_4, fe_5]) <;> (try simp (disch := omega) only [tI_bm]) <;> omega)) (by omega) h4 h5 (fun i hi => ?_) (fun i hi => ?_)
      · rw [upd_at]
        by_cases z : i = k
        · rw [if_pos z, z]
        · rw [if_neg z]; exact hI i (by omega)
      · rw [upd_at, if_neg (by omega)]; exact hJ i (by omega)
set_option maxHeartbeats 400000 in
theorem x_takeBack (x1 : Int32) (c_next : Int32) (c_size : Int32) (c_p2_picked : Int64) (c_p2_keys : Int32) (c_p2_time : Int32) (c_p2_counts : Nat → Int32) (c_p2_positions : Nat → Int32) (c_slot_picked : Int64) (c_slot_keys : Int32) (c_slot_time : Int32) (c_slot_counts : Nat → Int32) (c_slot_positions : Nat → Int32) (hH : HR c_next c_size) : Pc (f_X1_takeBack x1 c_next c_size c_p2_picked c_p2_keys c_p2_time c_p2_counts c_p2_positions c_slot_picked c_slot_keys c_slot_time c_slot_counts c_slot_positions) (fun r => (¬ (1 ≤ x1.toInt ∧ x1.toInt ≤ c_size.toInt) ∧ r = (0, c_next, c_size, c_p2_picked, c_p2_keys, c_p2_time, c_p2_counts, c_p2_positions)) ∨ ((1 ≤ x1.toInt ∧ x1.toInt ≤ c_size.toInt) ∧ r.1 = 1 ∧ r.2.1.toInt = (((c_next.toInt + 100 - x1.toInt).toNat % 100 : Nat) : Int) ∧ r.2.2.1.toInt = c_size.toInt - x1.toInt ∧ r.2.2.2.1 = c_slot_picked ∧ r.2.2.2.2.1 = c_slot_keys ∧ r.2.2.2.2.2.1 = c_slot_time ∧ (∀ i, i < 40 → r.2.2.2.2.2.2.1 i = c_slot_counts i) ∧ ∀ i, i < 40 → r.2.2.2.2.2.2.2 i = c_slot_positions i)) := by
  obtain ⟨h1, h2, h3, h4⟩ := hH
  unfold f_X1_takeBack
  have e100 : (100 : Int32).toInt = 100 := by decide
  refine pc_if (fun a => pc_some (.inl ⟨fun q => ?_, rfl⟩)) (fun a => pc_if (fun b => pc_vlet (pc_vlet (pc_bad (fun _ => pc_bind (x_copy _ _ _ _ _ _ _ _ _ _) (fun r h => pc_some (.inr ⟨?_, rfl, ?_, ?_, h⟩)))))) (fun b => pc_some (.inl ⟨fun q => ?_, rfl⟩)))
  · rw [tI_lt, l_1] at a; omega
  · rw [tI_lt, l_1] at a
    rw [tI_le] at b
    omega
  · rw [tI_lt, l_1] at a
    rw [tI_le] at b
    have e : (c_next - x1 + 100).toInt = c_next.toInt - x1.toInt + 100 := by ((try simp only [tI_lt, tI_le, tI_eq, tI_add, tI_sub, tI_mul, tI_nat, Int32.reduceToInt, Int.reduceToNat, fe_0, fe_1, fe_2, fe_3, fe_4, fe_5]) <;> (try simp (disch := omega) only [tI_bm]) <;> omega)
    show (xrem (c_next - x1 + 100) 100).toInt = _
    rw [tI_rem (by omega) (by decide), e, e100]
    omega
  · rw [tI_lt, l_1] at a
    rw [tI_le] at b
    show (c_size - x1).toInt = _
    ((try simp only [tI_lt, tI_le, tI_eq, tI_add, tI_sub, tI_mul, tI_nat, Int32.reduceToInt, Int.reduceToNat, fe_0, fe_1, fe_2, fe_3, fe_4, fe_5]) <;> (try simp (disch := omega) only [tI_bm]) <;> omega)
  · rw [tI_le] at b; omega
