/-! feed: both write the same -/
set_option maxHeartbeats 400000 in
theorem nar_byte (x : Int32) : vp_nar .byte x = x.toInt8.toInt32 := rfl
set_option maxHeartbeats 400000 in
theorem byte_rng (x : Int32) : -128 ≤ (vp_nar .byte x).toInt ∧ (vp_nar .byte x).toInt < 128 := by
  rw [nar_byte, Int8.toInt_toInt32]
  exact ⟨Int8.le_toInt _, Int8.toInt_lt _⟩
set_option maxHeartbeats 400000 in
theorem feed3 : ∀ (n : Nat) (x1 x2 c_taped : Int32) (c_tape : Nat → Int32), 0 ≤ c_taped.toInt → -8 ≤ x2.toInt → x2.toInt ≤ 24 → 8 * c_taped.toInt + x2.toInt ≤ 31992 → (f_X10_feedNumber_3 n x1 x2 c_taped c_tape) = (f_X11_four_3 n x1 x2 c_taped c_tape)
  | 0, _, _, _, _, _, _, _, _ => rfl
  | n + 1, x1, x2, c_taped, c_tape, h1, h2, h3, h4 => by
    unfold f_X10_feedNumber_3 f_X11_four_3
    by_cases a : x2 < 0
    · rw [if_pos a, if_pos a]
    · rw [if_neg a, if_neg a]
      rw [tI_lt, show (0 : Int32).toInt = 0 from by decide] at a
      rw [if_neg (show ¬ (4000 : Int32) ≤ c_taped by rw [tI_le, show (4000 : Int32).toInt = 4000 from by decide]; omega)]
      dsimp only [vlet]
      have e1 : (c_taped + 1).toInt = c_taped.toInt + 1 := by ((try simp only [tI_lt, tI_le, tI_eq, tI_add, tI_sub, tI_mul, tI_nat, Int32.reduceToInt, Int.reduceToNat, fe_0, fe_1, fe_2, fe_3, fe_4, fe_5]) <;> (try simp (disch := omega) only [tI_bm]) <;> omega)
      have e2 : (x2 + -8).toInt = x2.toInt - 8 := by ((try simp only [tI_lt, tI_le, tI_eq, tI_add, tI_sub, tI_mul, tI_nat, Int32.reduceToInt, Int.reduceToNat, fe_0, fe_1, fe_2, fe_3, fe_4, fe_5]) <;> (try simp (disch := omega) only [tI_bm]) <;> omega)
      rw [feed3 n x1 (x2 + -8) (c_taped + 1) _ (by rw [e1]; omega) (by rw [e2]; clear e2; omega) (by rw [e2]; clear e2; omega) (by rw [e1, e2]; clear e2; omega)]
def BYA (t : Nat → Int32) : Prop := ∀ i : Nat, -128 ≤ (t i).toInt ∧ (t i).toInt < 128
set_option maxHeartbeats 400000 in
theorem four3 : ∀ (n : Nat) (x1 x2 c_taped : Int32) (c_tape : Nat → Int32), 0 ≤ c_taped.toInt → -8 ≤ x2.toInt → x2.toInt ≤ 24 → 8 * c_taped.toInt + x2.toInt ≤ 31992 → x2.toInt % 8 = 0 → x2.toInt + 8 < 8 * n → BYA c_tape → Ok (f_X11_four_3 n x1 x2 c_taped c_tape) (fun r => 8 * r.1.toInt = 8 * c_taped.toInt + x2.toInt + 8 ∧ BYA r.2)
  | 0, x1, x2, c_taped, c_tape, h1, h2, h3, h4, h5, h6, hB => by
    exfalso; omega
  | n + 1, x1, x2, c_taped, c_tape, h1, h2, h3, h4, h5, h6, hB => by
    unfold f_X11_four_3
    refine ok_if (fun a => ok_some ⟨?_, hB⟩) (fun a => ?_)
    · rw [tI_lt, show (0 : Int32).toInt = 0 from by decide] at a
      show 8 * c_taped.toInt = _
      omega
    · rw [tI_lt, show (0 : Int32).toInt = 0 from by decide] at a
      have e1 : (c_taped + 1).toInt = c_taped.toInt + 1 := by ((try simp only [tI_lt, tI_le, tI_eq, tI_add, tI_sub, tI_mul, tI_nat, Int32.reduceToInt, Int.reduceToNat, fe_0, fe_1, fe_2, fe_3, fe_4, fe_5]) <;> (try simp (disch := omega) only [tI_bm]) <;> omega)
      refine ok_vlet (ok_bad (by omega) (ok_vlet (ok_vlet (ok_vlet ?_))))
      have k1 : 8 * (c_taped.toInt + 1) + (x2.toInt - 8) ≤ 31992 := by omega
      have k2 : -8 ≤ x2.toInt - 8 := by omega
      have k3 : x2.toInt - 8 ≤ 24 := by omega
      have k4 : (x2.toInt - 8) % 8 = 0 := by omega
      have k5 : x2.toInt - 8 + 8 < 8 * n := by omega
      have k6 : 8 * (c_taped.toInt + 1) + (x2.toInt - 8) + 8 = 8 * c_taped.toInt + x2.toInt + 8 := by omega
      have e2 : (x2 + -8).toInt = x2.toInt - 8 := by ((try simp only [tI_lt, tI_le, tI_eq, tI_add, tI_sub, tI_mul, tI_nat, Int32.reduceToInt, Int.reduceToNat, fe_0, fe_1, fe_2, fe_3, fe_4, fe_5]) <;> (try simp (disch := omega) only [tI_bm]) <;> omega)
      rw [← e2, ← e1] at k1 k6
      rw [← e2] at k2 k3 k4 k5
      refine ok_mono (four3 n x1 _ _ _ (by rw [e1]; clear k1 k2 k3 k4 k5 k6 e2; omega) k2 k3 k1 k4 k5 (fun i => ?_)) (fun r hr => ⟨by rw [hr.1, k6], hr.2⟩)
      rw [upd_at]
      split
      · exact byte_rng _
      · exact hB i
set_option maxHeartbeats 400000 in
theorem feedN (x1 c_taped : Int32) (c_tape : Nat → Int32) (h1 : 0 ≤ c_taped.toInt) (h2 : c_taped.toInt ≤ 3996) : (f_X10_feedNumber x1 c_taped c_tape) = (f_X11_four x1 c_taped c_tape) := by
  unfold f_X10_feedNumber f_X11_four
  exact feed3 _ _ _ _ _ h1 (by decide) (by decide) (by rw [show (24 : Int32).toInt = 24 from by decide]; omega)
set_option maxHeartbeats 400000 in
theorem four_ok (x1 c_taped : Int32) (c_tape : Nat → Int32) (h1 : 0 ≤ c_taped.toInt) (h2 : c_taped.toInt ≤ 3996) (hB : BYA c_tape) : Ok (f_X11_four x1 c_taped c_tape) (fun r => r.1.toInt = c_taped.toInt + 4 ∧ BYA r.2) := by
  unfold f_X11_four
  refine ok_mono (four3 FU x1 24 c_taped c_tape h1 (by decide) (by decide) (by rw [show (24 : Int32).toInt = 24 from by decide]; omega) (by decide) (by rw [FU_eq]; decide) hB) (fun r hr => ⟨?_, hr.2⟩)
  have := hr.1
  rw [show (24 : Int32).toInt = 24 from by decide] at this
  omega
set_option maxHeartbeats 400000 in
theorem feed_ok (x1 x2 x3 x4 x5 c_taped : Int32) (c_tape : Nat → Int32) (h1 : 0 ≤ c_taped.toInt) (h2 : c_taped.toInt ≤ 4000) (hB : BYA c_tape) : ∃ r, (f_X10_feed x1 x2 x3 x4 x5 c_taped c_tape) = some r ∧ (f_X11_feed x1 x2 x3 x4 x5 c_taped c_tape) = some r ∧ 0 ≤ r.2.1.toInt ∧ r.2.1.toInt ≤ 4000 ∧ BYA r.2.2 := by
  unfold f_X10_feed f_X11_feed
  have e20 : (c_taped + 20).toInt = c_taped.toInt + 20 := by ((try simp only [tI_lt, tI_le, tI_eq, tI_add, tI_sub, tI_mul, tI_nat, Int32.reduceToInt, Int.reduceToNat, fe_0, fe_1, fe_2, fe_3, fe_4, fe_5]) <;> (try simp (disch := omega) only [tI_bm]) <;> omega)
  by_cases a : c_taped.toInt ≤ 3980
  · rw [if_pos (show c_taped ≤ (3980 : Int32) by rw [tI_le, show (3980 : Int32).toInt = 3980 from by decide]; exact a), if_pos (show c_taped + 20 ≤ (4000 : Int32) by rw [tI_le, e20, show (4000 : Int32).toInt = 4000 from by decide]; omega)]
    obtain ⟨r1, q1, t1, b1⟩ := four_ok x1 c_taped c_tape h1 (by omega) hB
    obtain ⟨r2, q2, t2, b2⟩ := four_ok x2 r1.1 r1.2 (by omega) (by omega) b1
    obtain ⟨r3, q3, t3, b3⟩ := four_ok x3 r2.1 r2.2 (by omega) (by omega) b2
    obtain ⟨r4, q4, t4, b4⟩ := four_ok x4 r3.1 r3.2 (by omega) (by omega) b3
    obtain ⟨r5, q5, t5, b5⟩ := four_ok x5 r4.1 r4.2 (by omega) (by omega) b4
    have p1 := feedN x1 c_taped c_tape h1 (by omega)
    have p2 := feedN x2 r1.1 r1.2 (by omega) (by omega)
    have p3 := feedN x3 r2.1 r2.2 (by omega) (by omega)
    have p4 := feedN x4 r3.1 r3.2 (by omega) (by omega)
    have p5 := feedN x5 r4.1 r4.2 (by omega) (by omega)
    refine ⟨(r5.1, r5.1, r5.2), ?_, ?_, by show 0 ≤ r5.1.toInt; omega, by show r5.1.toInt ≤ 4000; omega, b5⟩
    · rw [p1, q1]; dsimp only [Option.bind]
      rw [p2, q2]; dsimp only [Option.bind]
      rw [p3, q3]; dsimp only [Option.bind]
      rw [p4, q4]; dsimp only [Option.bind]
      rw [p5, q5]
    · rw [q1]; dsimp only [Option.bind]
      rw [q2]; dsimp only [Option.bind]
      rw [q3]; dsimp only [Option.bind]
      rw [q4]; dsimp only [Option.bind]
      rw [q5]
  · rw [if_neg (show ¬ c_taped ≤ (3980 : Int32) by rw [tI_le, show (3980 : Int32).toInt = 3980 from by decide]; exact a), if_neg (show ¬ c_taped + 20 ≤ (4000 : Int32) by rw [tI_le, e20, show (4000 : Int32).toInt = 4000 from by decide]; omega)]
    exact ⟨_, rfl, rfl, h1, h2, hB⟩
/-! load: the class -/
set_option maxHeartbeats 400000 in
theorem lfold_cg (t1 t2 : Nat → Int32) : ∀ k, (∀ i, i < k → t1 i = t2 i) → lfold t1 k = lfold t2 k
  | 0, _ => rfl
  | k + 1, h => by
    show lstep (lfold t1 k) (t1 k).toInt = lstep (lfold t2 k) (t2 k).toInt
    rw [lfold_cg t1 t2 k (fun i hi => h i (by omega)), h k (by omega)]
set_option maxHeartbeats 400000 in
theorem stmts_cg (t1 t2 : Nat → Int32) (k : Nat) (h : ∀ i, i < k → t1 i = t2 i) : stmtsT t1 k = stmtsT t2 k := by
  unfold stmtsT toksT
  rw [lfold_cg t1 t2 k h]
set_option maxHeartbeats 400000 in
theorem i2b_id {x : Int32} (h1 : -128 ≤ x.toInt) (h2 : x.toInt < 128) : xi2b x = x := by
  unfold xi2b
  apply Int32.toInt_inj.mp
  rw [Int8.toInt_toInt32, Int32.toInt_toInt8, Int.bmod_def]
  omega
set_option maxHeartbeats 400000 in
theorem e_copyT (x2 : Int32) (c_length : Int32) (c_text : Nat → Int32) (c_p1 : Nat → Int32) (h1 : 0 ≤ x2.toInt) (h2 : x2.toInt ≤ 4000) (hB : BYA c_p1) : (f_X7_copy x2 c_length c_text c_p1) = some (x2, va_cpy c_p1 c_text 0 0 x2.toInt.toNat) := by
  unfold f_X7_copy
  have e : xmax (0 : Int32) (xmin x2 (xmin (4000 : Int32) (4000 : Int32))) = x2 := by
    have e0 : xmin (4000 : Int32) (4000 : Int32) = 4000 := by decide
    rw [e0]
    have e1 : xmin x2 (4000 : Int32) = x2 := by
      unfold xmin
      by_cases a : (4000 : Int32) < x2
      · exfalso; rw [tI_lt, show (4000 : Int32).toInt = 4000 from by decide] at a; omega
      · rw [if_neg a]
    rw [e1]
    unfold xmax
    by_cases a : (0 : Int32) < x2
    · rw [if_pos a]
    · rw [if_neg a]
      rw [tI_lt, show (0 : Int32).toInt = 0 from by decide] at a
      exact Int32.toInt_inj.mp (by rw [show (0 : Int32).toInt = 0 from by decide]; omega)
  dsimp only [vlet]
  rw [e]
  have ck : cpyok (0 : Int32) (0 : Int32) x2 4000 4000 = true := by
    unfold cpyok
    have a : ¬ x2 < 0 := by rw [tI_lt, show (0 : Int32).toInt = 0 from by decide]; omega
    have b : (0 : Int32).toNatClampNeg + x2.toNatClampNeg ≤ 4000 := by rw [tI_nat, tI_nat, show (0 : Int32).toInt.toNat = 0 from by decide]; omega
    simp only [a, b, decide_true, Bool.and_true, not_false_eq_true]
    decide
  rw [if_pos ck, if_pos (fun i _ => i2b_id (hB _).1 (hB _).2)]
  rfl
set_option maxHeartbeats 400000 in
theorem s_X9_clear (c_stuckAt : Nat → Int32) (c_dusty : Nat → Int32) : Ok (f_X9_clear c_stuckAt c_dusty) (fun _ => True) := by
  unfold f_X9_clear
  have go : ∀ (n : Nat) (x1 : Int32) (c_stuckAt c_dusty : Nat → Int32), 0 ≤ x1.toInt → x1.toInt ≤ 240 → 240 < x1.toInt + n → Ok (f_X9_clear_2 n x1 c_stuckAt c_dusty) (fun _ => True) := by
    intro n
    induction n with
    | zero => intro x1 a b h1 h2 h3; exfalso; omega
    | succ n ih =>
      intro x1 a b h1 h2 h3
      unfold f_X9_clear_2
      refine ok_if (fun _ => ok_some trivial) (fun a => ?_)
      rw [tI_le, show (240 : Int32).toInt = 240 from by decide] at a
      exact ok_bad (by omega) (ok_vlet (ok_bad (by omega) (ok_vlet (ok_vlet (ih _ _ _ (by ((try simp only [tI_lt, tI_le, tI_eq, tI_add, tI_sub, tI_mul, tI_nat, Int32.reduceToInt, Int.reduceToNat, fe_0, fe_1, fe_2, fe_3, fe_4, fe_5]) <;> (try simp (disch := omega) only [tI_bm]) <;> omega)) (by ((try simp only [tI_lt, tI_le, tI_eq, tI_add, tI_sub, tI_mul, tI_nat, Int32.reduceToInt, Int.reduceToNat, fe_0, fe_1, fe_2, fe_3, fe_4, fe_5]) <;> (try simp (disch := omega) only [tI_bm]) <;> omega)) (by ((try simp only [tI_lt, tI_le, tI_eq, tI_add, tI_sub, tI_mul, tI_nat, Int32.reduceToInt, Int.reduceToNat, fe_0, fe_1, fe_2, fe_3, fe_4, fe_5]) <;> (try simp (disch := omega) only [tI_bm]) <;> omega)))))))
  exact go FU 0 _ _ (by decide) (by decide) (by rw [FU_eq]; decide)
set_option maxHeartbeats 400000 in
theorem s_X6_clear (c_picked : Int64) (c_keys : Int32) (c_time : Int32) (c_counts : Nat → Int32) (c_positions : Nat → Int32) : Ok (f_X6_clear c_picked c_keys c_time c_counts c_positions) (fun _ => True) := by
  unfold f_X6_clear
  have go : ∀ (n : Nat) (x1 : Int32) (c_picked : Int64) (c_keys c_time : Int32) (c_counts c_positions : Nat → Int32), 0 ≤ x1.toInt → x1.toInt ≤ 40 → 40 < x1.toInt + n → Ok (f_X6_clear_17 n x1 c_picked c_keys c_time c_counts c_positions) (fun _ => True) := by
    intro n
    induction n with
    | zero => intro x1 a b c d e h1 h2 h3; exfalso; omega
    | succ n ih =>
      intro x1 p q r a b h1 h2 h3
      unfold f_X6_clear_17
      refine ok_if (fun _ => ok_some trivial) (fun a => ?_)
      rw [tI_le, show (40 : Int32).toInt = 40 from by decide] at a
      exact ok_bad (by omega) (ok_vlet (ok_bad (by omega) (ok_vlet (ok_vlet (ih _ _ _ _ _ _ (by ((try simp only [tI_lt, tI_le, tI_eq, tI_add, tI_sub, tI_mul, tI_nat, Int32.reduceToInt, Int.reduceToNat, fe_0, fe_1, fe_2, fe_3, fe_4, fe_5]) <;> (try simp (disch := omega) only [tI_bm]) <;> omega)) (by ((try simp only [tI_lt, tI_le, tI_eq, tI_add, tI_sub, tI_mul, tI_nat, Int32.reduceToInt, Int.reduceToNat, fe_0, fe_1, fe_2, fe_3, fe_4, fe_5]) <;> (try simp (disch := omega) only [tI_bm]) <;> omega)) (by ((try simp only [tI_lt, tI_le, tI_eq, tI_add, tI_sub, tI_mul, tI_nat, Int32.reduceToInt, Int.reduceToNat, fe_0, fe_1, fe_2, fe_3, fe_4, fe_5]) <;> (try simp (disch := omega) only [tI_bm]) <;> omega)))))))
  exact go FU 0 _ _ _ _ _ (by decide) (by decide) (by rw [FU_eq]; decide)
set_option maxHeartbeats 400000 in
theorem s_takeNetlist (c_reader_draftF : Nat) (c_reader_draft_parts : Nat → Int32) (c_machine_netlistF : Nat) (c_machine_wear_stuckAt : Nat → Int32) (c_machine_wear_dusty : Nat → Int32) (c_state_picked : Int64) (c_state_keys : Int32) (c_state_time : Int32) (c_state_counts : Nat → Int32) (c_state_positions : Nat → Int32) (c_history_next : Int32) (c_history_size : Int32) (c_races_onTick : Int32) : Ok (f_X10_takeNetlist c_reader_draftF c_reader_draft_parts c_machine_netlistF c_machine_wear_stuckAt c_machine_wear_dusty c_state_picked c_state_keys c_state_time c_state_counts c_state_positions c_history_next c_history_size c_races_onTick) (fun r => r.1 = c_reader_draft_parts 0 ∧ r.2.1 = c_machine_netlistF ∧ r.2.2.1 = c_reader_draftF ∧ r.2.2.2.2.2.2.2.2.2.2.1 = 0 ∧ r.2.2.2.2.2.2.2.2.2.2.2.1 = 0) := by
  unfold f_X10_takeNetlist
  exact ok_bind (s_X9_clear _ _) (fun r1 _ => ok_bind (s_X6_clear _ _ _ _ _) (fun r2 _ => ok_eq rfl (ok_eq rfl (ok_bad (by decide) (ok_some ⟨rfl, rfl, rfl, rfl, rfl⟩)))))
def LoadX (S : List StT) (acc : Prop) (dF nF : Nat) (next size : Int32) (ret : Int32) (dF2 : Nat) (toldNets : Int32) (places parts : Nat → Int32) (names : Nat → Nat → Int64) (pick drop cont makes per on_ : Nat → Int32) (nF2 : Nat) (next2 size2 : Int32) : Prop := CB cont ∧ PA places ∧ ((acc ∧ ret = parts 0 ∧ dF2 = nF ∧ nF2 = dF ∧ next2 = 0 ∧ size2 = 0 ∧ GS (-1) (-1) parts names cont S ∧ NX pick drop cont makes per on_ S ∧ 0 ≤ toldNets.toInt ∧ toldNets.toInt ≤ 954) ∨ (¬ acc ∧ ret = -1 ∧ dF2 = dF ∧ nF2 = nF ∧ next2 = next ∧ size2 = size))
set_option maxHeartbeats 400000 in
theorem s_X10_load (x1 : Int32) (c_taped : Int32) (c_fault : Int32) (c_faultPlace : Int32) (c_tape : Nat → Int32) (c_reader_draftF : Nat) (c_reader_fault : Int32) (c_reader_faultPlace : Int32) (c_reader_firstMany : Int32) (c_reader_firstTwice : Int32) (c_reader_at : Int32) (c_reader_nameAt : Int32) (c_reader_number : Int32) (c_reader_pins : Int32) (c_reader_wires : Int32) (c_reader_tokens_length : Int32) (c_reader_tokens_size : Int32) (c_reader_tokens_text : Nat → Int32) (c_reader_tokens_kinds : Nat → Int32) (c_reader_tokens_places : Nat → Int32) (c_reader_tokens_values : Nat → Int64) (c_reader_draft_toldNets : Int32) (c_reader_draft_nets : Int32) (c_reader_draft_parts : Nat → Int32) (c_reader_draft_names : Nat → Nat → Int64) (c_reader_draft_pickTime : Nat → Int32) (c_reader_draft_dropTime : Nat → Int32) (c_reader_draft_contacts : Nat → Int32) (c_reader_draft_makes : Nat → Int32) (c_reader_draft_period : Nat → Int32) (c_reader_draft_onTime : Nat → Int32) (c_reader_draft_told : Nat → Int32) (c_reader_draft_joined : Nat → Int32) (c_reader_draft_netOf : Nat → Int32) (c_reader_pinAt : Nat → Int32) (c_reader_pinEnds : Nat → Int32) (c_reader_pinWires : Nat → Int32) (c_machine_netlistF : Nat) (c_machine_wear_stuckAt : Nat → Int32) (c_machine_wear_dusty : Nat → Int32) (c_state_picked : Int64) (c_state_keys : Int32) (c_state_time : Int32) (c_state_counts : Nat → Int32) (c_state_positions : Nat → Int32) (c_history_next : Int32) (c_history_size : Int32) (c_races_onTick : Int32) (h1 : 0 ≤ c_taped.toInt) (h2 : c_taped.toInt ≤ 4000) (hB : BYA c_tape) (hPA : PA c_reader_tokens_places) (hC : CB c_reader_draft_contacts) : Ok (f_X10_load x1 c_taped c_fault c_faultPlace c_tape c_reader_draftF c_reader_fault c_reader_faultPlace c_reader_firstMany c_reader_firstTwice c_reader_at c_reader_nameAt c_reader_number c_reader_pins c_reader_wires c_reader_tokens_length c_reader_tokens_size c_reader_tokens_text c_reader_tokens_kinds c_reader_tokens_places c_reader_tokens_values c_reader_draft_toldNets c_reader_draft_nets c_reader_draft_parts c_reader_draft_names c_reader_draft_pickTime c_reader_draft_dropTime c_reader_draft_contacts c_reader_draft_makes c_reader_draft_period c_reader_draft_onTime c_reader_draft_told c_reader_draft_joined c_reader_draft_netOf c_reader_pinAt c_reader_pinEnds c_reader_pinWires c_machine_netlistF c_machine_wear_stuckAt c_machine_wear_dusty c_state_picked c_state_keys c_state_time c_state_counts c_state_positions c_history_next c_history_size c_races_onTick) (fun r => (¬ (0 ≤ x1.toInt ∧ x1.toInt ≤ c_taped.toInt) ∧ r.1 = -2 ∧ r.2.1 = c_taped ∧ r.2.2.2.2.1 = c_reader_draftF ∧ r.2.2.2.2.2.2.2.2.2.2.2.2.2.2.2.2.2.2.1 = c_reader_tokens_places ∧ r.2.2.2.2.2.2.2.2.2.2.2.2.2.2.2.2.2.2.2.2.1 = c_reader_draft_toldNets ∧ r.2.2.2.2.2.2.2.2.2.2.2.2.2.2.2.2.2.2.2.2.2.2.1 = c_reader_draft_parts ∧ r.2.2.2.2.2.2.2.2.2.2.2.2.2.2.2.2.2.2.2.2.2.2.2.1 = c_reader_draft_names ∧ r.2.2.2.2.2.2.2.2.2.2.2.2.2.2.2.2.2.2.2.2.2.2.2.2.2.2.1 = c_reader_draft_contacts ∧ r.2.2.2.2.2.2.2.2.2.2.2.2.2.2.2.2.2.2.2.2.2.2.2.2.2.2.2.2.2.2.2.2.2.2.2.2.1 = c_machine_netlistF ∧ r.2.2.2.2.2.2.2.2.2.2.2.2.2.2.2.2.2.2.2.2.2.2.2.2.2.2.2.2.2.2.2.2.2.2.2.2.2.2.2.2.2.2.2.2.1 = c_history_next ∧ r.2.2.2.2.2.2.2.2.2.2.2.2.2.2.2.2.2.2.2.2.2.2.2.2.2.2.2.2.2.2.2.2.2.2.2.2.2.2.2.2.2.2.2.2.2.1 = c_history_size) ∨ ((0 ≤ x1.toInt ∧ x1.toInt ≤ c_taped.toInt) ∧ r.2.1 = 0 ∧ LoadX (getT (stmtsT c_tape x1.toInt.toNat)) (accT (stmtsT c_tape x1.toInt.toNat)) c_reader_draftF c_machine_netlistF c_history_next c_history_size r.1 r.2.2.2.2.1 r.2.2.2.2.2.2.2.2.2.2.2.2.2.2.2.2.2.2.2.2.1 r.2.2.2.2.2.2.2.2.2.2.2.2.2.2.2.2.2.2.1 r.2.2.2.2.2.2.2.2.2.2.2.2.2.2.2.2.2.2.2.2.2.2.1 r.2.2.2.2.2.2.2.2.2.2.2.2.2.2.2.2.2.2.2.2.2.2.2.1 r.2.2.2.2.2.2.2.2.2.2.2.2.2.2.2.2.2.2.2.2.2.2.2.2.1 r.2.2.2.2.2.2.2.2.2.2.2.2.2.2.2.2.2.2.2.2.2.2.2.2.2.1 r.2.2.2.2.2.2.2.2.2.2.2.2.2.2.2.2.2.2.2.2.2.2.2.2.2.2.1 r.2.2.2.2.2.2.2.2.2.2.2.2.2.2.2.2.2.2.2.2.2.2.2.2.2.2.2.1 r.2.2.2.2.2.2.2.2.2.2.2.2.2.2.2.2.2.2.2.2.2.2.2.2.2.2.2.2.1 r.2.2.2.2.2.2.2.2.2.2.2.2.2.2.2.2.2.2.2.2.2.2.2.2.2.2.2.2.2.1 r.2.2.2.2.2.2.2.2.2.2.2.2.2.2.2.2.2.2.2.2.2.2.2.2.2.2.2.2.2.2.2.2.2.2.2.2.1 r.2.2.2.2.2.2.2.2.2.2.2.2.2.2.2.2.2.2.2.2.2.2.2.2.2.2.2.2.2.2.2.2.2.2.2.2.2.2.2.2.2.2.2.2.1 r.2.2.2.2.2.2.2.2.2.2.2.2.2.2.2.2.2.2.2.2.2.2.2.2.2.2.2.2.2.2.2.2.2.2.2.2.2.2.2.2.2.2.2.2.2.1)) := by
  unfold f_X10_load
  refine ok_if (fun a => ok_some (.inl ⟨?_, rfl, rfl, rfl, rfl, rfl, rfl, rfl, rfl, rfl, rfl, rfl⟩)) (fun a => ok_if (fun b => ?_) (fun b => ok_some (.inl ⟨?_, rfl, rfl, rfl, rfl, rfl, rfl, rfl, rfl, rfl, rfl, rfl⟩)))
  · rw [tI_lt, show (0 : Int32).toInt = 0 from by decide] at a
    exact fun q => by omega
  · rw [tI_lt, show (0 : Int32).toInt = 0 from by decide] at a
    rw [tI_le] at b
    refine ok_eq (e_copyT _ _ _ _ (by omega) (by omega) hB) (ok_bind (s_X5_read _ _ _ _ _ _ _ _ _ _ _ _ _ _ _ _ _ _ _ _ _ _ _ _ _ _ _ _ _ _ _ (by dsimp only; omega) hPA hC) (fun r2 hr => ?_))
    have ec : stmtsT (va_cpy c_tape c_reader_tokens_text 0 0 x1.toInt.toNat) x1.toInt.toNat = stmtsT c_tape x1.toInt.toNat := by
      refine stmts_cg _ _ _ (fun i hi => ?_)
      unfold va_cpy
      rw [if_pos ⟨Nat.zero_le _, by omega⟩]
      congr 1
      omega
    dsimp only at hr
    rw [ec] at hr
    obtain ⟨k1, k2, k3⟩ := hr
    rcases k3 with ⟨g1, g2, g3, g4, g5, g6⟩ | ⟨g1, g2⟩
    · rw [if_neg (by rw [g2]; decide)]
      refine ok_bind (s_takeNetlist _ _ _ _ _ _ _ _ _ _ _ _ _) (fun r3 h3 => ok_some (.inr ⟨⟨by omega, b⟩, rfl, k1, k2, .inl ⟨g1, h3.1, h3.2.1, h3.2.2.1, h3.2.2.2.1, h3.2.2.2.2, g3, g4, g5, g6⟩⟩))
    · rw [if_pos g2]
      exact ok_some (.inr ⟨⟨by omega, b⟩, rfl, k1, k2, .inr ⟨g1, rfl, rfl, rfl, rfl, rfl⟩⟩)
  · rw [tI_le] at b
    exact fun q => b q.2
