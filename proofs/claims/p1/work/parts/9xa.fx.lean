/-! the class on a netlist without parts -/
set_option maxHeartbeats 400000 in
theorem cpy40 (a b : Nat → Int32) (k : Nat) (hk : k < 40) : va_cpy a b (0 : Int32).toNatClampNeg (0 : Int32).toNatClampNeg (40 : Int32).toNatClampNeg k = a k := by
  unfold va_cpy
  have e0 : (0 : Int32).toNatClampNeg = 0 := by decide
  have e4 : (40 : Int32).toNatClampNeg = 40 := by decide
  rw [e0, e4, if_pos ⟨Nat.zero_le _, by omega⟩]
  congr 1
  omega
set_option maxHeartbeats 400000 in
theorem x_copy (c_picked : Int64) (c_keys : Int32) (c_time : Int32) (c_counts : Nat → Int32) (c_positions : Nat → Int32) (c_p1_picked : Int64) (c_p1_keys : Int32) (c_p1_time : Int32) (c_p1_counts : Nat → Int32) (c_p1_positions : Nat → Int32) : Ok (f_X6_copy c_picked c_keys c_time c_counts c_positions c_p1_picked c_p1_keys c_p1_time c_p1_counts c_p1_positions) (fun r => r.1 = c_p1_picked ∧ r.2.1 = c_p1_keys ∧ r.2.2.1 = c_p1_time ∧ ∀ k, k < 40 → r.2.2.2.1 k = c_p1_counts k ∧ r.2.2.2.2 k = c_p1_positions k) := by
  unfold f_X6_copy
  exact ok_if (fun _ => ok_vlet (ok_if (fun _ => ok_vlet (ok_some ⟨rfl, rfl, rfl, fun k hk => ⟨cpy40 _ _ k hk, cpy40 _ _ k hk⟩⟩)) (fun h => absurd (by decide) h))) (fun h => absurd (by decide) h)
set_option maxHeartbeats 400000 in
theorem fx_step18 (c_netlist_nets : Int32) (c_netlist_parts : Nat → Int32) (c_netlist_pickTime : Nat → Int32) (c_netlist_dropTime : Nat → Int32) (c_netlist_contacts : Nat → Int32) (c_netlist_makes : Nat → Int32) (c_netlist_period : Nat → Int32) (c_netlist_onTime : Nat → Int32) (c_netlist_netOf : Nat → Int32) (c_wear_stuckAt : Nat → Int32) (c_wear_dusty : Nat → Int32) (c_p1_keys : Int32) : ∀ (n : Nat) (x2 : Int32) (x3 : Int64) (x5 : Int32) (c_ways_nets : Int32) (c_ways_links : Int32) (c_ways_firstLink : Nat → Int32) (c_ways_nextLink : Nat → Int32) (c_ways_leadsTo : Nat → Int32) (c_ways_lets : Nat → Int32) (c_ways_powers : Nat → Int32) (c_ways_reached : Nat → Int32) (c_p1_picked : Int64) (c_p1_time : Int32) (c_p1_counts : Nat → Int32) (c_p1_positions : Nat → Int32), 0 < n → c_netlist_parts 0 ≤ x5 → (f_X2_step_18 c_netlist_nets c_netlist_parts c_netlist_pickTime c_netlist_dropTime c_netlist_contacts c_netlist_makes c_netlist_period c_netlist_onTime c_netlist_netOf c_wear_stuckAt c_wear_dusty c_p1_keys n x2 x3 x5 c_ways_nets c_ways_links c_ways_firstLink c_ways_nextLink c_ways_leadsTo c_ways_lets c_ways_powers c_ways_reached c_p1_picked c_p1_time c_p1_counts c_p1_positions) = some (c_ways_nets, c_ways_links, c_ways_firstLink, c_ways_nextLink, c_ways_leadsTo, c_ways_lets, c_ways_powers, c_ways_reached, c_p1_picked, c_p1_time, c_p1_counts, c_p1_positions)
  | 0, x2, x3, x5, c_ways_nets, c_ways_links, c_ways_firstLink, c_ways_nextLink, c_ways_leadsTo, c_ways_lets, c_ways_powers, c_ways_reached, c_p1_picked, c_p1_time, c_p1_counts, c_p1_positions, h, h2 => absurd h (Nat.lt_irrefl _)
  | n + 1, x2, x3, x5, c_ways_nets, c_ways_links, c_ways_firstLink, c_ways_nextLink, c_ways_leadsTo, c_ways_lets, c_ways_powers, c_ways_reached, c_p1_picked, c_p1_time, c_p1_counts, c_p1_positions, h, h2 => by
    unfold f_X2_step_18
    have e : bad (0 : Int32) 5 = false := by decide
    have e0 : (0 : Int32).toNatClampNeg = 0 := by decide
    rw [e, if_neg (by decide), e0, if_pos h2]
set_option maxHeartbeats 400000 in
theorem fx_step (x2 : Int32) (x3 : Int64) (c_netlist_nets : Int32) (c_netlist_parts : Nat → Int32) (c_netlist_pickTime : Nat → Int32) (c_netlist_dropTime : Nat → Int32) (c_netlist_contacts : Nat → Int32) (c_netlist_makes : Nat → Int32) (c_netlist_period : Nat → Int32) (c_netlist_onTime : Nat → Int32) (c_netlist_netOf : Nat → Int32) (c_wear_stuckAt : Nat → Int32) (c_wear_dusty : Nat → Int32) (c_ways_nets : Int32) (c_ways_links : Int32) (c_ways_firstLink : Nat → Int32) (c_ways_nextLink : Nat → Int32) (c_ways_leadsTo : Nat → Int32) (c_ways_lets : Nat → Int32) (c_ways_powers : Nat → Int32) (c_ways_reached : Nat → Int32) (c_p1_picked : Int64) (c_p1_keys : Int32) (c_p1_time : Int32) (c_p1_counts : Nat → Int32) (c_p1_positions : Nat → Int32) (hN : NS c_netlist_parts c_netlist_contacts) (h0 : c_netlist_parts 0 = 0) : Ok (f_X2_step x2 x3 c_netlist_nets c_netlist_parts c_netlist_pickTime c_netlist_dropTime c_netlist_contacts c_netlist_makes c_netlist_period c_netlist_onTime c_netlist_netOf c_wear_stuckAt c_wear_dusty c_ways_nets c_ways_links c_ways_firstLink c_ways_nextLink c_ways_leadsTo c_ways_lets c_ways_powers c_ways_reached c_p1_picked c_p1_keys c_p1_time c_p1_counts c_p1_positions) (fun r => r.2.2.2.2.2.2.2.2.1 = c_p1_picked ∧ r.2.2.2.2.2.2.2.2.2.1 = c_p1_time + 1 ∧ r.2.2.2.2.2.2.2.2.2.2.1 = c_p1_counts ∧ r.2.2.2.2.2.2.2.2.2.2.2 = c_p1_positions) := by
  unfold f_X2_step
  refine ok_vlet (ok_bind (s_X2_settle _ _ _ _ _ _ _ _ _ _ _ _ _ _ _ _ _ _ _ _ hN) (fun r2 _ => ok_eq2 (fx_step18 c_netlist_nets c_netlist_parts c_netlist_pickTime c_netlist_dropTime c_netlist_contacts c_netlist_makes c_netlist_period c_netlist_onTime c_netlist_netOf c_wear_stuckAt c_wear_dusty c_p1_keys FU _ _ _ _ _ _ _ _ _ _ _ _ _ _ _ (by rw [FU_eq]; decide) (by rw [h0]; decide)) ⟨rfl, rfl, rfl, rfl⟩))
set_option maxHeartbeats 400000 in
theorem x_keep (c_next : Int32) (c_size : Int32) (c_p1_picked : Int64) (c_p1_keys : Int32) (c_p1_time : Int32) (c_p1_counts : Nat → Int32) (c_p1_positions : Nat → Int32) (c_slot_picked : Int64) (c_slot_keys : Int32) (c_slot_time : Int32) (c_slot_counts : Nat → Int32) (c_slot_positions : Nat → Int32) (h : HR c_next c_size) : Ok (f_X1_keep c_next c_size c_p1_picked c_p1_keys c_p1_time c_p1_counts c_p1_positions c_slot_picked c_slot_keys c_slot_time c_slot_counts c_slot_positions) (fun r => HR r.1 r.2.1 ∧ r.2.2.1 = c_p1_picked ∧ ∀ k, k < 40 → r.2.2.2.2.2.1 k = c_p1_counts k ∧ r.2.2.2.2.2.2 k = c_p1_positions k) := by
  obtain ⟨r, e, h1⟩ := s_X1_keep _ _ _ _ _ _ _ _ _ _ _ _ h
  refine ⟨r, e, h1, ?_⟩
  unfold f_X1_keep at e
  obtain ⟨rc, ec, hc⟩ := x_copy (c_picked := c_slot_picked) (c_keys := c_slot_keys) (c_time := c_slot_time) (c_counts := c_slot_counts) (c_positions := c_slot_positions) (c_p1_picked := c_p1_picked) (c_p1_keys := c_p1_keys) (c_p1_time := c_p1_time) (c_p1_counts := c_p1_counts) (c_p1_positions := c_p1_positions)
  rw [bad_f h.1 h.2.1, if_neg (by decide), ec] at e
  dsimp only [Option.bind, vlet] at e
  injection e with e
  rw [← e]
  exact ⟨hc.1, hc.2.2.2⟩
set_option maxHeartbeats 400000 in
theorem fx_runTick (c_machine_netlist_nets : Int32) (c_machine_netlist_parts : Nat → Int32) (c_machine_netlist_pickTime : Nat → Int32) (c_machine_netlist_dropTime : Nat → Int32) (c_machine_netlist_contacts : Nat → Int32) (c_machine_netlist_makes : Nat → Int32) (c_machine_netlist_period : Nat → Int32) (c_machine_netlist_onTime : Nat → Int32) (c_machine_netlist_netOf : Nat → Int32) (c_machine_wear_stuckAt : Nat → Int32) (c_machine_wear_dusty : Nat → Int32) (c_machine_ways_nets : Int32) (c_machine_ways_links : Int32) (c_machine_ways_firstLink : Nat → Int32) (c_machine_ways_nextLink : Nat → Int32) (c_machine_ways_leadsTo : Nat → Int32) (c_machine_ways_lets : Nat → Int32) (c_machine_ways_powers : Nat → Int32) (c_machine_ways_reached : Nat → Int32) (c_state_picked : Int64) (c_state_keys : Int32) (c_state_time : Int32) (c_state_counts : Nat → Int32) (c_state_positions : Nat → Int32) (c_history_next : Int32) (c_history_size : Int32) (c_slot_picked : Int64) (c_slot_keys : Int32) (c_slot_time : Int32) (c_slot_counts : Nat → Int32) (c_slot_positions : Nat → Int32) (hN : NS c_machine_netlist_parts c_machine_netlist_contacts) (h : HR c_history_next c_history_size) (h0 : c_machine_netlist_parts 0 = 0) : Ok (f_X10_runTick c_machine_netlist_nets c_machine_netlist_parts c_machine_netlist_pickTime c_machine_netlist_dropTime c_machine_netlist_contacts c_machine_netlist_makes c_machine_netlist_period c_machine_netlist_onTime c_machine_netlist_netOf c_machine_wear_stuckAt c_machine_wear_dusty c_machine_ways_nets c_machine_ways_links c_machine_ways_firstLink c_machine_ways_nextLink c_machine_ways_leadsTo c_machine_ways_lets c_machine_ways_powers c_machine_ways_reached c_state_picked c_state_keys c_state_time c_state_counts c_state_positions c_history_next c_history_size c_slot_picked c_slot_keys c_slot_time c_slot_counts c_slot_positions) (fun r => HR r.2.2.2.2.2.2.2.2.2.2.2.2.1 r.2.2.2.2.2.2.2.2.2.2.2.2.2.1 ∧ r.2.2.2.2.2.2.2.2.1 = c_state_picked ∧ r.2.2.2.2.2.2.2.2.2.1 = c_state_time + 1 ∧ r.2.2.2.2.2.2.2.2.2.2.1 = c_state_counts ∧ r.2.2.2.2.2.2.2.2.2.2.2.1 = c_state_positions ∧ r.2.2.2.2.2.2.2.2.2.2.2.2.2.2.1 = c_state_picked ∧ ∀ k, k < 40 → r.2.2.2.2.2.2.2.2.2.2.2.2.2.2.2.2.2.1 k = c_state_counts k ∧ r.2.2.2.2.2.2.2.2.2.2.2.2.2.2.2.2.2.2 k = c_state_positions k) := by
  unfold f_X10_runTick
  exact ok_bind (x_keep _ _ _ _ _ _ _ _ _ _ _ _ h) (fun r1 h1 => ok_bind (fx_step _ _ _ _ _ _ _ _ _ _ _ _ _ _ _ _ _ _ _ _ _ _ _ _ _ _ hN h0) (fun r2 h2 => ok_some ⟨h1.1, h2.1, h2.2.1, h2.2.2.1, h2.2.2.2, h1.2.1, h1.2.2⟩))
set_option maxHeartbeats 400000 in
theorem fx_tick_15 (c_machine_netlist_nets : Int32) (c_machine_netlist_parts : Nat → Int32) (c_machine_netlist_pickTime : Nat → Int32) (c_machine_netlist_dropTime : Nat → Int32) (c_machine_netlist_contacts : Nat → Int32) (c_machine_netlist_makes : Nat → Int32) (c_machine_netlist_period : Nat → Int32) (c_machine_netlist_onTime : Nat → Int32) (c_machine_netlist_netOf : Nat → Int32) (c_machine_wear_stuckAt : Nat → Int32) (c_machine_wear_dusty : Nat → Int32) (c_state_keys : Int32) (x1 : Int32) (hN : NS c_machine_netlist_parts c_machine_netlist_contacts) (h0 : c_machine_netlist_parts 0 = 0) (hx : x1.toInt ≤ 1000) (T : Int) : ∀ (n : Nat) (x2 : Int32) (c_machine_ways_nets : Int32) (c_machine_ways_links : Int32) (c_machine_ways_firstLink : Nat → Int32) (c_machine_ways_nextLink : Nat → Int32) (c_machine_ways_leadsTo : Nat → Int32) (c_machine_ways_lets : Nat → Int32) (c_machine_ways_powers : Nat → Int32) (c_machine_ways_reached : Nat → Int32) (c_state_picked : Int64) (c_state_time : Int32) (c_state_counts : Nat → Int32) (c_state_positions : Nat → Int32) (c_history_next : Int32) (c_history_size : Int32) (pk : Nat → Int64) (ky : Nat → Int32) (tm : Nat → Int32) (cn : Nat → Nat → Int32) (po : Nat → Nat → Int32), 0 ≤ x2.toInt → x2.toInt ≤ x1.toInt → x1.toInt < x2.toInt + n → HR c_history_next c_history_size → c_state_time.toInt = T + x2.toInt → 0 ≤ T → T ≤ 1000 → Ok (f_X10_tick_15 c_machine_netlist_nets c_machine_netlist_parts c_machine_netlist_pickTime c_machine_netlist_dropTime c_machine_netlist_contacts c_machine_netlist_makes c_machine_netlist_period c_machine_netlist_onTime c_machine_netlist_netOf c_machine_wear_stuckAt c_machine_wear_dusty c_state_keys x1 n x2 c_machine_ways_nets c_machine_ways_links c_machine_ways_firstLink c_machine_ways_nextLink c_machine_ways_leadsTo c_machine_ways_lets c_machine_ways_powers c_machine_ways_reached c_state_picked c_state_time c_state_counts c_state_positions c_history_next c_history_size pk ky tm cn po) (fun r => r.1.toInt = T + x1.toInt)
  | 0, x2, c_machine_ways_nets, c_machine_ways_links, c_machine_ways_firstLink, c_machine_ways_nextLink, c_machine_ways_leadsTo, c_machine_ways_lets, c_machine_ways_powers, c_machine_ways_reached, c_state_picked, c_state_time, c_state_counts, c_state_positions, c_history_next, c_history_size, pk, ky, tm, cn, po, h1, h2, h3, hH, hT, g1, g2 => by exfalso; omega
  | n + 1, x2, c_machine_ways_nets, c_machine_ways_links, c_machine_ways_firstLink, c_machine_ways_nextLink, c_machine_ways_leadsTo, c_machine_ways_lets, c_machine_ways_powers, c_machine_ways_reached, c_state_picked, c_state_time, c_state_counts, c_state_positions, c_history_next, c_history_size, pk, ky, tm, cn, po, h1, h2, h3, hH, hT, g1, g2 => by
    unfold f_X10_tick_15
    refine ok_if (fun a => ok_some ?_) (fun a => ?_)
    · rw [tI_le] at a
      show c_state_time.toInt = _
      omega
    · rw [tI_le] at a
      refine ok_bad ⟨hH.1, hH.2.1⟩ (ok_bind (fx_runTick _ _ _ _ _ _ _ _ _ _ _ _ _ _ _ _ _ _ _ _ _ _ _ _ _ _ _ _ _ _ _ hN hH h0) (fun r hr => ok_vlet ?_))
      obtain ⟨k1, k2, k3, k4⟩ := hr
      exact fx_tick_15 c_machine_netlist_nets c_machine_netlist_parts c_machine_netlist_pickTime c_machine_netlist_dropTime c_machine_netlist_contacts c_machine_netlist_makes c_machine_netlist_period c_machine_netlist_onTime c_machine_netlist_netOf c_machine_wear_stuckAt c_machine_wear_dusty c_state_keys x1 hN h0 hx T n _ _ _ _ _ _ _ _ _ _ _ _ _ _ _ _ _ _ _ _ (by ((try simp only [tI_lt, tI_le, tI_eq, tI_add, tI_sub, tI_mul, tI_nat, Int32.reduceToInt, Int.reduceToNat, fe_0, fe_1, fe_2, fe_3, fe_4, fe_5]) <;> (try simp (disch := omega) only [tI_bm]) <;> omega)) (by ((try simp only [tI_lt, tI_le, tI_eq, tI_add, tI_sub, tI_mul, tI_nat, Int32.reduceToInt, Int.reduceToNat, fe_0, fe_1, fe_2, fe_3, fe_4, fe_5]) <;> (try simp (disch := omega) only [tI_bm]) <;> omega)) (by ((try simp only [tI_lt, tI_le, tI_eq, tI_add, tI_sub, tI_mul, tI_nat, Int32.reduceToInt, Int.reduceToNat, fe_0, fe_1, fe_2, fe_3, fe_4, fe_5]) <;> (try simp (disch := omega) only [tI_bm]) <;> omega)) k1 (by rw [k3]; ((try simp only [tI_lt, tI_le, tI_eq, tI_add, tI_sub, tI_mul, tI_nat, Int32.reduceToInt, Int.reduceToNat, fe_0, fe_1, fe_2, fe_3, fe_4, fe_5]) <;> (try simp (disch := omega) only [tI_bm]) <;> omega)) g1 g2
set_option maxHeartbeats 400000 in
theorem fx_tick (c_machine_netlist_nets : Int32) (c_machine_netlist_parts : Nat → Int32) (c_machine_netlist_pickTime : Nat → Int32) (c_machine_netlist_dropTime : Nat → Int32) (c_machine_netlist_contacts : Nat → Int32) (c_machine_netlist_makes : Nat → Int32) (c_machine_netlist_period : Nat → Int32) (c_machine_netlist_onTime : Nat → Int32) (c_machine_netlist_netOf : Nat → Int32) (c_machine_wear_stuckAt : Nat → Int32) (c_machine_wear_dusty : Nat → Int32) (c_state_keys : Int32) (x1 : Int32) (c_machine_ways_nets : Int32) (c_machine_ways_links : Int32) (c_machine_ways_firstLink : Nat → Int32) (c_machine_ways_nextLink : Nat → Int32) (c_machine_ways_leadsTo : Nat → Int32) (c_machine_ways_lets : Nat → Int32) (c_machine_ways_powers : Nat → Int32) (c_machine_ways_reached : Nat → Int32) (c_state_picked : Int64) (c_state_time : Int32) (c_state_counts : Nat → Int32) (c_state_positions : Nat → Int32) (c_history_next : Int32) (c_history_size : Int32) (pk : Nat → Int64) (ky : Nat → Int32) (tm : Nat → Int32) (cn : Nat → Nat → Int32) (po : Nat → Nat → Int32) (hN : NS c_machine_netlist_parts c_machine_netlist_contacts) (h0 : c_machine_netlist_parts 0 = 0) (h : HR c_history_next c_history_size) (ht : c_state_time = 0) : Ok (f_X10_tick c_machine_netlist_nets c_machine_netlist_parts c_machine_netlist_pickTime c_machine_netlist_dropTime c_machine_netlist_contacts c_machine_netlist_makes c_machine_netlist_period c_machine_netlist_onTime c_machine_netlist_netOf c_machine_wear_stuckAt c_machine_wear_dusty c_state_keys x1 c_machine_ways_nets c_machine_ways_links c_machine_ways_firstLink c_machine_ways_nextLink c_machine_ways_leadsTo c_machine_ways_lets c_machine_ways_powers c_machine_ways_reached c_state_picked c_state_time c_state_counts c_state_positions c_history_next c_history_size pk ky tm cn po) (fun r => r.1.toInt = if 0 ≤ x1.toInt ∧ x1.toInt ≤ 500 then x1.toInt else -1) := by
  unfold f_X10_tick
  refine ok_if (fun a => ok_some ?_) (fun a => ok_if (fun b => ?_) (fun b => ok_some ?_))
  · rw [tI_lt, l_0] at a
    show (-1 : Int32).toInt = _
    rw [if_neg (by omega)]; decide
  · rw [tI_lt, l_0] at a
    rw [tI_le, l_500] at b
    refine ok_mono (fx_tick_15 c_machine_netlist_nets c_machine_netlist_parts c_machine_netlist_pickTime c_machine_netlist_dropTime c_machine_netlist_contacts c_machine_netlist_makes c_machine_netlist_period c_machine_netlist_onTime c_machine_netlist_netOf c_machine_wear_stuckAt c_machine_wear_dusty c_state_keys x1 hN h0 (by omega) 0 FU 0 _ _ _ _ _ _ _ _ _ _ _ _ _ _ _ _ _ _ _ (by decide) (by rw [l_0]; omega) (by rw [FU_eq, l_0]; omega) h (by rw [ht]; decide) (by decide) (by decide)) (fun r hr => ?_)
    rw [if_pos (by omega), hr]; omega
  · rw [tI_le, l_500] at b
    show (-1 : Int32).toInt = _
    rw [if_neg (by omega)]; decide
set_option maxHeartbeats 400000 in
theorem fx_rests (c_picked : Int64) (c_counts : Nat → Int32) (c_positions : Nat → Int32) (c_p1_picked : Int64) (c_p1_counts : Nat → Int32) (c_p1_positions : Nat → Int32) (hk : ∀ k, k < 40 → c_counts k = c_p1_counts k ∧ c_positions k = c_p1_positions k) : ∀ (n : Nat) (x2 : Int32), 0 ≤ x2.toInt → x2.toInt ≤ 40 → 40 < x2.toInt + n → (f_X6_restsAs_16 c_picked c_counts c_positions c_p1_picked c_p1_counts c_p1_positions n x2) = some 1
  | 0, x2, h1, h2, h3 => by exfalso; omega
  | n + 1, x2, h1, h2, h3 => by
    unfold f_X6_restsAs_16
    by_cases a : (40 : Int32) ≤ x2
    · rw [if_pos a]
    · rw [if_neg a]
      rw [tI_le, show (40 : Int32).toInt = 40 from by decide] at a
      have hb : bad x2 40 = false := bad_f h1 (by omega)
      have := hk x2.toNatClampNeg (by rw [tI_nat]; omega)
      simp only [hb, Bool.false_eq_true, if_false, this.1, this.2, if_true]
      dsimp only [vlet]
      exact fx_rests c_picked c_counts c_positions c_p1_picked c_p1_counts c_p1_positions hk n _ (by ((try simp only [tI_lt, tI_le, tI_eq, tI_add, tI_sub, tI_mul, tI_nat, Int32.reduceToInt, Int.reduceToNat, fe_0, fe_1, fe_2, fe_3, fe_4, fe_5]) <;> (try simp (disch := omega) only [tI_bm]) <;> omega)) (by ((try simp only [tI_lt, tI_le, tI_eq, tI_add, tI_sub, tI_mul, tI_nat, Int32.reduceToInt, Int.reduceToNat, fe_0, fe_1, fe_2, fe_3, fe_4, fe_5]) <;> (try simp (disch := omega) only [tI_bm]) <;> omega)) (by ((try simp only [tI_lt, tI_le, tI_eq, tI_add, tI_sub, tI_mul, tI_nat, Int32.reduceToInt, Int.reduceToNat, fe_0, fe_1, fe_2, fe_3, fe_4, fe_5]) <;> (try simp (disch := omega) only [tI_bm]) <;> omega))
set_option maxHeartbeats 400000 in
theorem fx_quiet (c_machine_netlist_nets : Int32) (c_machine_netlist_parts : Nat → Int32) (c_machine_netlist_pickTime : Nat → Int32) (c_machine_netlist_dropTime : Nat → Int32) (c_machine_netlist_contacts : Nat → Int32) (c_machine_netlist_makes : Nat → Int32) (c_machine_netlist_period : Nat → Int32) (c_machine_netlist_onTime : Nat → Int32) (c_machine_netlist_netOf : Nat → Int32) (c_machine_wear_stuckAt : Nat → Int32) (c_machine_wear_dusty : Nat → Int32) (c_state_keys : Int32) (c_machine_ways_nets : Int32) (c_machine_ways_links : Int32) (c_machine_ways_firstLink : Nat → Int32) (c_machine_ways_nextLink : Nat → Int32) (c_machine_ways_leadsTo : Nat → Int32) (c_machine_ways_lets : Nat → Int32) (c_machine_ways_powers : Nat → Int32) (c_machine_ways_reached : Nat → Int32) (c_state_picked : Int64) (c_state_time : Int32) (c_state_counts : Nat → Int32) (c_state_positions : Nat → Int32) (c_history_next : Int32) (c_history_size : Int32) (pk : Nat → Int64) (ky : Nat → Int32) (tm : Nat → Int32) (cn : Nat → Nat → Int32) (po : Nat → Nat → Int32) (hN : NS c_machine_netlist_parts c_machine_netlist_contacts) (h0 : c_machine_netlist_parts 0 = 0) (h : HR c_history_next c_history_size) : Ok (f_X10_quiet c_machine_netlist_nets c_machine_netlist_parts c_machine_netlist_pickTime c_machine_netlist_dropTime c_machine_netlist_contacts c_machine_netlist_makes c_machine_netlist_period c_machine_netlist_onTime c_machine_netlist_netOf c_machine_wear_stuckAt c_machine_wear_dusty c_state_keys c_machine_ways_nets c_machine_ways_links c_machine_ways_firstLink c_machine_ways_nextLink c_machine_ways_leadsTo c_machine_ways_lets c_machine_ways_powers c_machine_ways_reached c_state_picked c_state_time c_state_counts c_state_positions c_history_next c_history_size pk ky tm cn po) (fun r => r.1 = 0) := by
  unfold f_X10_quiet
  have go : ∀ (n : Nat), 0 < n → Ok (f_X10_quiet_2 c_machine_netlist_nets c_machine_netlist_parts c_machine_netlist_pickTime c_machine_netlist_dropTime c_machine_netlist_contacts c_machine_netlist_makes c_machine_netlist_period c_machine_netlist_onTime c_machine_netlist_netOf c_machine_wear_stuckAt c_machine_wear_dusty c_state_keys n (0 : Int32) c_machine_ways_nets c_machine_ways_links c_machine_ways_firstLink c_machine_ways_nextLink c_machine_ways_leadsTo c_machine_ways_lets c_machine_ways_powers c_machine_ways_reached c_state_picked c_state_time c_state_counts c_state_positions c_history_next c_history_size pk ky tm cn po) (fun r => r.1 = 0) := by
    intro n hn
    cases n with
    | zero => exact absurd hn (Nat.lt_irrefl _)
    | succ n =>
      unfold f_X10_quiet_2
      rw [if_neg (by decide)]
      refine ok_bad ⟨h.1, h.2.1⟩ (ok_bind (fx_runTick _ _ _ _ _ _ _ _ _ _ _ _ _ _ _ _ _ _ _ _ _ _ _ _ _ _ _ _ _ _ _ hN h h0) (fun r hr => ?_))
      obtain ⟨k1, k2, k3, k4, k5, k6, k7⟩ := hr
      unfold f_X6_restsAs
      rw [if_pos ((lgc _ _).mpr (by rw [k2, k6]))]
      refine ok_eq (fx_rests _ _ _ _ _ _ (fun k hk => ?_) FU 0 (by decide) (by decide) (by rw [FU_eq]; decide)) ?_
      · have := k7 k hk
        rw [k4, k5, this.1, this.2]
        exact ⟨rfl, rfl⟩
      · rw [if_neg (by decide)]
        exact ok_some rfl
  exact go FU (by rw [FU_eq]; decide)
set_option maxHeartbeats 400000 in
theorem fx_adv (c_due : Int64) (c_main_picked : Int64) (c_main_keys : Int32) (c_main_time : Int32) (c_main_counts : Nat → Int32) (c_main_positions : Nat → Int32) (c_ahead_picked : Int64) (c_ahead_keys : Int32) (c_ahead_time : Int32) (c_ahead_counts : Nat → Int32) (c_ahead_positions : Nat → Int32) (c_p1_netlist_nets : Int32) (c_p1_netlist_parts : Nat → Int32) (c_p1_netlist_pickTime : Nat → Int32) (c_p1_netlist_dropTime : Nat → Int32) (c_p1_netlist_contacts : Nat → Int32) (c_p1_netlist_makes : Nat → Int32) (c_p1_netlist_period : Nat → Int32) (c_p1_netlist_onTime : Nat → Int32) (c_p1_netlist_netOf : Nat → Int32) (c_p1_wear_stuckAt : Nat → Int32) (c_p1_wear_dusty : Nat → Int32) (c_p1_ways_nets : Int32) (c_p1_ways_links : Int32) (c_p1_ways_firstLink : Nat → Int32) (c_p1_ways_nextLink : Nat → Int32) (c_p1_ways_leadsTo : Nat → Int32) (c_p1_ways_lets : Nat → Int32) (c_p1_ways_powers : Nat → Int32) (c_p1_ways_reached : Nat → Int32) (hN : NS c_p1_netlist_parts c_p1_netlist_contacts) (h0 : c_p1_netlist_parts 0 = 0) : Ok (f_X4_advance c_due c_main_picked c_main_keys c_main_time c_main_counts c_main_positions c_ahead_picked c_ahead_keys c_ahead_time c_ahead_counts c_ahead_positions c_p1_netlist_nets c_p1_netlist_parts c_p1_netlist_pickTime c_p1_netlist_dropTime c_p1_netlist_contacts c_p1_netlist_makes c_p1_netlist_period c_p1_netlist_onTime c_p1_netlist_netOf c_p1_wear_stuckAt c_p1_wear_dusty c_p1_ways_nets c_p1_ways_links c_p1_ways_firstLink c_p1_ways_nextLink c_p1_ways_leadsTo c_p1_ways_lets c_p1_ways_powers c_p1_ways_reached) (fun r => r.1 = 0) := by
  unfold f_X4_advance
  refine ok_bind (x_copy _ _ _ _ _ _ _ _ _ _) (fun r1 h1 => ok_bind (fx_step _ _ _ _ _ _ _ _ _ _ _ _ _ _ _ _ _ _ _ _ _ _ _ _ _ _ hN h0) (fun r2 h2 => ok_vlet ?_))
  rw [h1.1, h2.1]
  have e : c_main_picked ^^^ c_main_picked = 0 := Int64.xor_self
  rw [e]
  refine ok_bind (P := fun r => r = 0) ⟨0, by decide +kernel, rfl⟩ (fun r4 h4 => ok_some h4)
set_option maxHeartbeats 400000 in
theorem fx_race_28 (c_machine_netlist_nets : Int32) (c_machine_netlist_parts : Nat → Int32) (c_machine_netlist_pickTime : Nat → Int32) (c_machine_netlist_dropTime : Nat → Int32) (c_machine_netlist_contacts : Nat → Int32) (c_machine_netlist_makes : Nat → Int32) (c_machine_netlist_period : Nat → Int32) (c_machine_netlist_onTime : Nat → Int32) (c_machine_netlist_netOf : Nat → Int32) (c_machine_wear_stuckAt : Nat → Int32) (c_machine_wear_dusty : Nat → Int32) (c_state_picked : Int64) (c_state_keys : Int32) (c_state_time : Int32) (c_state_counts : Nat → Int32) (c_state_positions : Nat → Int32) (hN : NS c_machine_netlist_parts c_machine_netlist_contacts) (h0 : c_machine_netlist_parts 0 = 0) : ∀ (n : Nat) (x1 : Int32) (x2 : Int32) (x3 : Int32) (c_machine_ways_nets : Int32) (c_machine_ways_links : Int32) (c_machine_ways_firstLink : Nat → Int32) (c_machine_ways_nextLink : Nat → Int32) (c_machine_ways_leadsTo : Nat → Int32) (c_machine_ways_lets : Nat → Int32) (c_machine_ways_powers : Nat → Int32) (c_machine_ways_reached : Nat → Int32) (c_races_due : Int64) (c_races_onTick : Int32) (c_races_main_picked : Int64) (c_races_main_keys : Int32) (c_races_main_time : Int32) (c_races_main_counts : Nat → Int32) (c_races_main_positions : Nat → Int32) (c_races_ahead_picked : Int64) (c_races_ahead_keys : Int32) (c_races_ahead_time : Int32) (c_races_ahead_counts : Nat → Int32) (c_races_ahead_positions : Nat → Int32) (c_races_trial_picked : Int64) (c_races_trial_keys : Int32) (c_races_trial_time : Int32) (c_races_trial_counts : Nat → Int32) (c_races_trial_positions : Nat → Int32), x2 = 0 → x1.toInt ≤ 16 → 1 ≤ x3.toInt → x3.toInt ≤ 17 → 20 < x3.toInt + n → Ok (f_X10_race_28 c_machine_netlist_nets c_machine_netlist_parts c_machine_netlist_pickTime c_machine_netlist_dropTime c_machine_netlist_contacts c_machine_netlist_makes c_machine_netlist_period c_machine_netlist_onTime c_machine_netlist_netOf c_machine_wear_stuckAt c_machine_wear_dusty c_state_picked c_state_keys c_state_time c_state_counts c_state_positions n x1 x2 x3 c_machine_ways_nets c_machine_ways_links c_machine_ways_firstLink c_machine_ways_nextLink c_machine_ways_leadsTo c_machine_ways_lets c_machine_ways_powers c_machine_ways_reached c_races_due c_races_onTick c_races_main_picked c_races_main_keys c_races_main_time c_races_main_counts c_races_main_positions c_races_ahead_picked c_races_ahead_keys c_races_ahead_time c_races_ahead_counts c_races_ahead_positions c_races_trial_picked c_races_trial_keys c_races_trial_time c_races_trial_counts c_races_trial_positions) (fun r => r.1 = 0)
  | 0, x1, x2, x3, c_machine_ways_nets, c_machine_ways_links, c_machine_ways_firstLink, c_machine_ways_nextLink, c_machine_ways_leadsTo, c_machine_ways_lets, c_machine_ways_powers, c_machine_ways_reached, c_races_due, c_races_onTick, c_races_main_picked, c_races_main_keys, c_races_main_time, c_races_main_counts, c_races_main_positions, c_races_ahead_picked, c_races_ahead_keys, c_races_ahead_time, c_races_ahead_counts, c_races_ahead_positions, c_races_trial_picked, c_races_trial_keys, c_races_trial_time, c_races_trial_counts, c_races_trial_positions, e, h1, h2, h3, h4 => by exfalso; omega
  | n + 1, x1, x2, x3, c_machine_ways_nets, c_machine_ways_links, c_machine_ways_firstLink, c_machine_ways_nextLink, c_machine_ways_leadsTo, c_machine_ways_lets, c_machine_ways_powers, c_machine_ways_reached, c_races_due, c_races_onTick, c_races_main_picked, c_races_main_keys, c_races_main_time, c_races_main_counts, c_races_main_positions, c_races_ahead_picked, c_races_ahead_keys, c_races_ahead_time, c_races_ahead_counts, c_races_ahead_positions, c_races_trial_picked, c_races_trial_keys, c_races_trial_time, c_races_trial_counts, c_races_trial_positions, e, h1, h2, h3, h4 => by
    unfold f_X10_race_28
    refine ok_if (fun a => ?_) (fun a => ?_)
    · rw [if_pos e]; exact ok_some rfl
    · rw [tI_lt] at a
      refine ok_bind (fx_adv _ _ _ _ _ _ _ _ _ _ _ _ _ _ _ _ _ _ _ _ _ _ _ _ _ _ _ _ _ _ hN h0) (fun r1 hr => ?_)
      rw [hr, if_pos (by decide)]
      unfold f_X10_race_58 f_X10_race_107
      refine ok_vlet (ok_vlet ?_)
      rw [if_pos (by decide)]
      refine ok_vlet (fx_race_28 c_machine_netlist_nets c_machine_netlist_parts c_machine_netlist_pickTime c_machine_netlist_dropTime c_machine_netlist_contacts c_machine_netlist_makes c_machine_netlist_period c_machine_netlist_onTime c_machine_netlist_netOf c_machine_wear_stuckAt c_machine_wear_dusty c_state_picked c_state_keys c_state_time c_state_counts c_state_positions hN h0 n _ _ _ _ _ _ _ _ _ _ _ _ _ _ _ _ _ _ _ _ _ _ _ _ _ _ _ _ (by rw [e]; decide) h1 (by ((try simp only [tI_lt, tI_le, tI_eq, tI_add, tI_sub, tI_mul, tI_nat, Int32.reduceToInt, Int.reduceToNat, fe_0, fe_1, fe_2, fe_3, fe_4, fe_5]) <;> (try simp (disch := omega) only [tI_bm]) <;> omega)) (by ((try simp only [tI_lt, tI_le, tI_eq, tI_add, tI_sub, tI_mul, tI_nat, Int32.reduceToInt, Int.reduceToNat, fe_0, fe_1, fe_2, fe_3, fe_4, fe_5]) <;> (try simp (disch := omega) only [tI_bm]) <;> omega)) (by ((try simp only [tI_lt, tI_le, tI_eq, tI_add, tI_sub, tI_mul, tI_nat, Int32.reduceToInt, Int.reduceToNat, fe_0, fe_1, fe_2, fe_3, fe_4, fe_5]) <;> (try simp (disch := omega) only [tI_bm]) <;> omega)))
set_option maxHeartbeats 400000 in
theorem fx_race (x1 : Int32) (c_machine_netlist_nets : Int32) (c_machine_netlist_parts : Nat → Int32) (c_machine_netlist_pickTime : Nat → Int32) (c_machine_netlist_dropTime : Nat → Int32) (c_machine_netlist_contacts : Nat → Int32) (c_machine_netlist_makes : Nat → Int32) (c_machine_netlist_period : Nat → Int32) (c_machine_netlist_onTime : Nat → Int32) (c_machine_netlist_netOf : Nat → Int32) (c_machine_wear_stuckAt : Nat → Int32) (c_machine_wear_dusty : Nat → Int32) (c_machine_ways_nets : Int32) (c_machine_ways_links : Int32) (c_machine_ways_firstLink : Nat → Int32) (c_machine_ways_nextLink : Nat → Int32) (c_machine_ways_leadsTo : Nat → Int32) (c_machine_ways_lets : Nat → Int32) (c_machine_ways_powers : Nat → Int32) (c_machine_ways_reached : Nat → Int32) (c_state_picked : Int64) (c_state_keys : Int32) (c_state_time : Int32) (c_state_counts : Nat → Int32) (c_state_positions : Nat → Int32) (c_races_due : Int64) (c_races_onTick : Int32) (c_races_main_picked : Int64) (c_races_main_keys : Int32) (c_races_main_time : Int32) (c_races_main_counts : Nat → Int32) (c_races_main_positions : Nat → Int32) (c_races_ahead_picked : Int64) (c_races_ahead_keys : Int32) (c_races_ahead_time : Int32) (c_races_ahead_counts : Nat → Int32) (c_races_ahead_positions : Nat → Int32) (c_races_trial_picked : Int64) (c_races_trial_keys : Int32) (c_races_trial_time : Int32) (c_races_trial_counts : Nat → Int32) (c_races_trial_positions : Nat → Int32) (hN : NS c_machine_netlist_parts c_machine_netlist_contacts) (h0 : c_machine_netlist_parts 0 = 0) : Ok (f_X10_race x1 c_machine_netlist_nets c_machine_netlist_parts c_machine_netlist_pickTime c_machine_netlist_dropTime c_machine_netlist_contacts c_machine_netlist_makes c_machine_netlist_period c_machine_netlist_onTime c_machine_netlist_netOf c_machine_wear_stuckAt c_machine_wear_dusty c_machine_ways_nets c_machine_ways_links c_machine_ways_firstLink c_machine_ways_nextLink c_machine_ways_leadsTo c_machine_ways_lets c_machine_ways_powers c_machine_ways_reached c_state_picked c_state_keys c_state_time c_state_counts c_state_positions c_races_due c_races_onTick c_races_main_picked c_races_main_keys c_races_main_time c_races_main_counts c_races_main_positions c_races_ahead_picked c_races_ahead_keys c_races_ahead_time c_races_ahead_counts c_races_ahead_positions c_races_trial_picked c_races_trial_keys c_races_trial_time c_races_trial_counts c_races_trial_positions) (fun r => r.1 = if 0 ≤ x1.toInt ∧ x1.toInt ≤ 16 then 0 else -2) := by
  unfold f_X10_race
  refine ok_if (fun a => ok_some ?_) (fun a => ok_if (fun b => ?_) (fun b => ok_some ?_))
  · rw [tI_lt, l_0] at a
    show (-2 : Int32) = _
    rw [if_neg (by omega)]
  · rw [tI_lt, l_0] at a
    rw [tI_le, l_16] at b
    unfold f_X4_begin
    refine ok_bind (P := fun _ => True) (ok_bind (x_copy _ _ _ _ _ _ _ _ _ _) (fun r1 h1 => ok_some trivial)) (fun r1 _ => ?_)
    refine ok_mono (fx_race_28 c_machine_netlist_nets c_machine_netlist_parts c_machine_netlist_pickTime c_machine_netlist_dropTime c_machine_netlist_contacts c_machine_netlist_makes c_machine_netlist_period c_machine_netlist_onTime c_machine_netlist_netOf c_machine_wear_stuckAt c_machine_wear_dusty c_state_picked c_state_keys c_state_time c_state_counts c_state_positions hN h0 FU _ _ _ _ _ _ _ _ _ _ _ _ _ _ _ _ _ _ _ _ _ _ _ _ _ _ _ _ rfl (by omega) (by decide) (by decide) (by rw [FU_eq]; decide)) (fun r hr => ?_)
    rw [if_pos (by omega), hr]
  · rw [tI_le, l_16] at b
    show (-2 : Int32) = _
    rw [if_neg (by omega)]
set_option maxHeartbeats 400000 in
theorem x_begin_22 : ∀ (n : Nat) (x2 : Int32) (c_nets : Int32) (c_links : Int32) (c_firstLink : Nat → Int32) (c_powers : Nat → Int32), 0 ≤ x2.toInt → x2.toInt ≤ c_nets.toInt → c_nets.toInt ≤ 954 → c_nets.toInt < x2.toInt + n → (∀ e : Nat, (e : Int) < x2.toInt → c_firstLink e = -1 ∧ c_powers e = 0) → Ok (f_X8_begin_22 n x2 c_nets c_links c_firstLink c_powers) (fun r => r.1 = c_nets ∧ r.2.1 = c_links ∧ ∀ e : Nat, (e : Int) < c_nets.toInt → r.2.2.1 e = -1 ∧ r.2.2.2 e = 0)
  | 0, x2, c_nets, c_links, c_firstLink, c_powers, h1, h2, h3, h4, h5 => by exfalso; omega
  | n + 1, x2, c_nets, c_links, c_firstLink, c_powers, h1, h2, h3, h4, h5 => by
    unfold f_X8_begin_22
    refine ok_if (fun a => ok_some ⟨rfl, rfl, fun e he => h5 e (by rw [tI_le] at a; omega)⟩) (fun a => ?_)
    rw [tI_le] at a
    refine ok_bad (by omega) (ok_vlet (ok_bad (by omega) (ok_vlet (ok_vlet ?_))))
    refine x_begin_22 n _ _ _ _ _ (by ((try simp only [tI_lt, tI_le, tI_eq, tI_add, tI_sub, tI_mul, tI_nat, Int32.reduceToInt, Int.reduceToNat, fe_0, fe_1, fe_2, fe_3, fe_4, fe_5]) <;> (try simp (disch := omega) only [tI_bm]) <;> omega)) (by ((try simp only [tI_lt, tI_le, tI_eq, tI_add, tI_sub, tI_mul, tI_nat, Int32.reduceToInt, Int.reduceToNat, fe_0, fe_1, fe_2, fe_3, fe_4, fe_5]) <;> (try simp (disch := omega) only [tI_bm]) <;> omega)) h3 (by ((try simp only [tI_lt, tI_le, tI_eq, tI_add, tI_sub, tI_mul, tI_nat, Int32.reduceToInt, Int.reduceToNat, fe_0, fe_1, fe_2, fe_3, fe_4, fe_5]) <;> (try simp (disch := omega) only [tI_bm]) <;> omega)) (fun e he => ?_)
    have e1 : (x2 + 1).toInt = x2.toInt + 1 := by ((try simp only [tI_lt, tI_le, tI_eq, tI_add, tI_sub, tI_mul, tI_nat, Int32.reduceToInt, Int.reduceToNat, fe_0, fe_1, fe_2, fe_3, fe_4, fe_5]) <;> (try simp (disch := omega) only [tI_bm]) <;> omega)
    rw [upd_at, upd_at, tI_nat]
    by_cases z : e = x2.toInt.toNat
    · rw [if_pos z, if_pos z]; exact ⟨rfl, rfl⟩
    · rw [if_neg z, if_neg z]; exact h5 e (by omega)
set_option maxHeartbeats 400000 in
theorem x_begin (x1 : Int32) (c_nets : Int32) (c_links : Int32) (c_firstLink : Nat → Int32) (c_powers : Nat → Int32) (h1 : 0 ≤ x1.toInt) (h2 : x1.toInt ≤ 954) : Ok (f_X8_begin x1 c_nets c_links c_firstLink c_powers) (fun r => r.1 = x1 ∧ r.2.1 = 0 ∧ ∀ e : Nat, (e : Int) < x1.toInt → r.2.2.1 e = -1 ∧ r.2.2.2 e = 0) := by
  unfold f_X8_begin
  have e : xmax (0 : Int32) (xmin x1 (954 : Int32)) = x1 := by
    have e1 : xmin x1 (954 : Int32) = x1 := by
      unfold xmin
      rw [if_neg (by rw [tI_lt, l_954]; omega)]
    rw [e1]
    unfold xmax
    by_cases a : (0 : Int32) < x1
    · rw [if_pos a]
    · rw [if_neg a]
      rw [tI_lt, l_0] at a
      exact Int32.toInt_inj.mp (by rw [l_0]; omega)
  rw [e]
  exact ok_vlet (x_begin_22 FU 0 x1 0 c_firstLink c_powers (by decide) (by rw [l_0]; exact h1) h2 (by rw [FU_eq, l_0]; omega) (fun e he => by rw [l_0] at he; omega))
set_option maxHeartbeats 400000 in
theorem fx_spread (x1 : Int32) (x2 : Int32) (c_nets : Int32) (c_links : Int32) (c_firstLink : Nat → Int32) (c_nextLink : Nat → Int32) (c_leadsTo : Nat → Int32) (c_lets : Nat → Int32) (c_powers : Nat → Int32) (c_reached : Nat → Int32) (h1 : 0 ≤ x1.toInt) (h2 : x1.toInt < c_nets.toInt) (h3 : c_nets.toInt ≤ 954) (h4 : 1 < c_nets.toInt) (hl : c_links = 0) : Ok (f_X8_spread x1 x2 c_nets c_links c_firstLink c_nextLink c_leadsTo c_lets c_powers c_reached) (fun r => r.1 = upd c_powers x1.toInt.toNat (c_powers x1.toInt.toNat ||| x2)) := by
  unfold f_X8_spread
  rw [if_neg (by rw [tI_lt, l_0]; omega), if_pos (by rw [tI_lt]; exact h2)]
  refine ok_bad (by omega) (ok_vlet (ok_bad (by omega) (ok_vlet (ok_bad (by decide) (ok_vlet ?_)))))
  rw [tI_nat]
  have go : ∀ n : Nat, 1 < n → ∀ (p q : Nat → Int32), 0 ≤ (q 0).toInt ∧ (q 0).toInt < 954 → Ok (f_X8_spread_35 c_nets c_links c_firstLink c_nextLink c_leadsTo c_lets n x2 (1 : Int32) (0 : Int32) p q) (fun r => r.1 = p) := by
    intro n hn p q hq
    match n, hn with
    | n + 2, _ =>
      unfold f_X8_spread_35
      rw [if_neg (by decide), if_neg (by rw [tI_le, l_0]; omega)]
      refine ok_bad (by decide) (ok_bad hq (ok_vlet ?_))
      have go2 : ∀ m : Nat, 0 < m → ∀ y : Int32, Ok (f_X8_spread_67 (f_X8_spread_35 c_nets c_links c_firstLink c_nextLink c_leadsTo c_lets (n + 1)) c_nets c_links c_firstLink c_nextLink c_leadsTo c_lets m x2 (1 : Int32) (0 : Int32) y (0 : Int32) p q) (fun r => r.1 = p) := by
        intro m hm y
        cases m with
        | zero => exact absurd hm (Nat.lt_irrefl _)
        | succ m =>
          unfold f_X8_spread_67 f_X8_spread_160
          rw [if_pos (by rw [hl]; decide)]
          refine ok_vlet ?_
          unfold f_X8_spread_35
          rw [if_pos (by decide)]
          exact ok_some rfl
      exact go2 FU (by rw [FU_eq]; decide) _
  refine go FU (by rw [FU_eq]; decide) _ _ ?_
  show 0 ≤ (upd c_reached 0 x1 0).toInt ∧ (upd c_reached 0 x1 0).toInt < 954
  rw [upd_at, if_pos rfl]
  omega
set_option maxHeartbeats 400000 in
theorem fx_settle (c_netlist_nets : Int32) (c_netlist_parts : Nat → Int32) (c_netlist_contacts : Nat → Int32) (c_netlist_makes : Nat → Int32) (c_netlist_period : Nat → Int32) (c_netlist_onTime : Nat → Int32) (c_netlist_netOf : Nat → Int32) (c_wear_stuckAt : Nat → Int32) (c_wear_dusty : Nat → Int32) (c_ways_nets : Int32) (c_ways_links : Int32) (c_ways_firstLink : Nat → Int32) (c_ways_nextLink : Nat → Int32) (c_ways_leadsTo : Nat → Int32) (c_ways_lets : Nat → Int32) (c_ways_powers : Nat → Int32) (c_ways_reached : Nat → Int32) (c_p1_keys : Int32) (c_p1_time : Int32) (c_p1_positions : Nat → Int32) (hp : ∀ s : Nat, s < 5 → c_netlist_parts s = 0) (hn : c_netlist_nets = 2) (h0 : c_netlist_netOf 952 = 0) (h1 : c_netlist_netOf 953 = 1) : Ok (f_X2_settle c_netlist_nets c_netlist_parts c_netlist_contacts c_netlist_makes c_netlist_period c_netlist_onTime c_netlist_netOf c_wear_stuckAt c_wear_dusty c_ways_nets c_ways_links c_ways_firstLink c_ways_nextLink c_ways_leadsTo c_ways_lets c_ways_powers c_ways_reached c_p1_keys c_p1_time c_p1_positions) (fun r => r.1 = 2 ∧ r.2.2.2.2.2.2.1 0 = 1 ∧ r.2.2.2.2.2.2.1 1 = 2) := by
  unfold f_X2_settle
  have h16 : ∀ n, 0 < n → ∀ (x2 : Int32) (c_ways_nets : Int32) (c_ways_links : Int32) (c_ways_firstLink : Nat → Int32) (c_ways_nextLink : Nat → Int32) (c_ways_leadsTo : Nat → Int32) (c_ways_lets : Nat → Int32) (c_ways_powers : Nat → Int32) (c_ways_reached : Nat → Int32), 0 ≤ x2.toInt → (f_X2_settle_16 c_netlist_nets c_netlist_parts c_netlist_contacts c_netlist_makes c_netlist_period c_netlist_onTime c_netlist_netOf c_wear_stuckAt c_wear_dusty c_p1_keys c_p1_time c_p1_positions n x2 c_ways_nets c_ways_links c_ways_firstLink c_ways_nextLink c_ways_leadsTo c_ways_lets c_ways_powers c_ways_reached) = (f_X2_settle_70 c_netlist_nets c_netlist_parts c_netlist_contacts c_netlist_makes c_netlist_period c_netlist_onTime c_netlist_netOf c_wear_stuckAt c_wear_dusty c_p1_keys c_p1_time c_p1_positions FU (0 : Int32) c_ways_nets c_ways_links c_ways_firstLink c_ways_nextLink c_ways_leadsTo c_ways_lets c_ways_powers c_ways_reached) := by
    intro n hn
    cases n with
    | zero => exact absurd hn (Nat.lt_irrefl _)
    | succ n =>
      intros
      unfold f_X2_settle_16
      rw [show bad (0 : Int32) 5 = false from by decide, if_neg (by decide), show (0 : Int32).toNatClampNeg = 0 from by decide, hp 0 (by decide), if_pos (by rw [tI_le, l_0]; assumption)]
  have h70 : ∀ n, 0 < n → ∀ (x2 : Int32) (c_ways_nets : Int32) (c_ways_links : Int32) (c_ways_firstLink : Nat → Int32) (c_ways_nextLink : Nat → Int32) (c_ways_leadsTo : Nat → Int32) (c_ways_lets : Nat → Int32) (c_ways_powers : Nat → Int32) (c_ways_reached : Nat → Int32), 0 ≤ x2.toInt → (f_X2_settle_70 c_netlist_nets c_netlist_parts c_netlist_contacts c_netlist_makes c_netlist_period c_netlist_onTime c_netlist_netOf c_wear_stuckAt c_wear_dusty c_p1_keys c_p1_time c_p1_positions n x2 c_ways_nets c_ways_links c_ways_firstLink c_ways_nextLink c_ways_leadsTo c_ways_lets c_ways_powers c_ways_reached) = (f_X2_settle_113 c_netlist_nets c_netlist_parts c_netlist_contacts c_netlist_makes c_netlist_period c_netlist_onTime c_netlist_netOf c_wear_stuckAt c_wear_dusty c_p1_keys c_p1_time c_p1_positions FU (0 : Int32) c_ways_nets c_ways_links c_ways_firstLink c_ways_nextLink c_ways_leadsTo c_ways_lets c_ways_powers c_ways_reached) := by
    intro n hn
    cases n with
    | zero => exact absurd hn (Nat.lt_irrefl _)
    | succ n =>
      intros
      unfold f_X2_settle_70
      rw [show bad (1 : Int32) 5 = false from by decide, if_neg (by decide), show (1 : Int32).toNatClampNeg = 1 from by decide, hp 1 (by decide), if_pos (by rw [tI_le, l_0]; assumption)]
  have h113 : ∀ n, 0 < n → ∀ (x2 : Int32) (c_ways_nets : Int32) (c_ways_links : Int32) (c_ways_firstLink : Nat → Int32) (c_ways_nextLink : Nat → Int32) (c_ways_leadsTo : Nat → Int32) (c_ways_lets : Nat → Int32) (c_ways_powers : Nat → Int32) (c_ways_reached : Nat → Int32), 0 ≤ x2.toInt → (f_X2_settle_113 c_netlist_nets c_netlist_parts c_netlist_contacts c_netlist_makes c_netlist_period c_netlist_onTime c_netlist_netOf c_wear_stuckAt c_wear_dusty c_p1_keys c_p1_time c_p1_positions n x2 c_ways_nets c_ways_links c_ways_firstLink c_ways_nextLink c_ways_leadsTo c_ways_lets c_ways_powers c_ways_reached) = (f_X2_settle_163 c_netlist_nets c_netlist_parts c_netlist_contacts c_netlist_makes c_netlist_period c_netlist_onTime c_netlist_netOf c_wear_stuckAt c_wear_dusty c_p1_keys c_p1_time c_p1_positions FU (0 : Int32) c_ways_nets c_ways_links c_ways_firstLink c_ways_nextLink c_ways_leadsTo c_ways_lets c_ways_powers c_ways_reached) := by
    intro n hn
    cases n with
    | zero => exact absurd hn (Nat.lt_irrefl _)
    | succ n =>
      intros
      unfold f_X2_settle_113
      rw [show bad (3 : Int32) 5 = false from by decide, if_neg (by decide), show (3 : Int32).toNatClampNeg = 3 from by decide, hp 3 (by decide), if_pos (by rw [tI_le, l_0]; assumption)]
  have h163 : ∀ n, 0 < n → ∀ (x2 : Int32) (c_ways_nets : Int32) (c_ways_links : Int32) (c_ways_firstLink : Nat → Int32) (c_ways_nextLink : Nat → Int32) (c_ways_leadsTo : Nat → Int32) (c_ways_lets : Nat → Int32) (c_ways_powers : Nat → Int32) (c_ways_reached : Nat → Int32), 0 ≤ x2.toInt → c_ways_nets = 2 → c_ways_links = 0 → c_ways_powers 0 = 0 → c_ways_powers 1 = 0 → Ok (f_X2_settle_163 c_netlist_nets c_netlist_parts c_netlist_contacts c_netlist_makes c_netlist_period c_netlist_onTime c_netlist_netOf c_wear_stuckAt c_wear_dusty c_p1_keys c_p1_time c_p1_positions n x2 c_ways_nets c_ways_links c_ways_firstLink c_ways_nextLink c_ways_leadsTo c_ways_lets c_ways_powers c_ways_reached) (fun r => r.1 = 2 ∧ r.2.2.2.2.2.2.1 0 = 1 ∧ r.2.2.2.2.2.2.1 1 = 2) := by
    intro n hn
    cases n with
    | zero => exact absurd hn (Nat.lt_irrefl _)
    | succ n =>
      intro x2 wn wl w1 w2 w3 w4 pw w6 hx e1 e2 e3 e4
      unfold f_X2_settle_163
      rw [show bad (4 : Int32) 5 = false from by decide, if_neg (by decide), show (4 : Int32).toNatClampNeg = 4 from by decide, hp 4 (by decide), if_pos (by rw [tI_le, l_0]; exact hx)]
      rw [show bad (5 : Int32) 6 = false from by decide, if_neg (by decide), show bad (cFE (5 : Int32).toNatClampNeg) 954 = false from by decide, if_neg (by decide), show bad ((cFE (5 : Int32).toNatClampNeg) + 1) 954 = false from by decide, show (cFE (5 : Int32).toNatClampNeg).toNatClampNeg = 952 from by decide, show ((cFE (5 : Int32).toNatClampNeg) + 1).toNatClampNeg = 953 from by decide, h0, h1]
      have n2 : wn.toInt = 2 := by rw [e1]; decide
      refine ok_bind (fx_spread _ _ _ _ _ _ _ _ _ _ (by decide) (by rw [n2]; decide) (by omega) (by omega) e2) (fun r4 h4 => ?_)
      simp only [Bool.false_eq_true, if_false]
      refine ok_bind (fx_spread _ _ _ _ _ _ _ _ _ _ (by decide) (by rw [n2]; decide) (by omega) (by omega) e2) (fun r7 h7 => ok_some ⟨e1, ?_, ?_⟩)
      · show r7.1 0 = 1
        rw [h7, h4, upd_at, if_neg (by decide), upd_at, if_pos (by decide)]
        show pw (0 : Int32).toInt.toNat ||| 1 = 1
        rw [show (0 : Int32).toInt.toNat = 0 from by decide, e3]
        decide
      · show r7.1 1 = 2
        rw [h7, h4, upd_at, if_pos (by decide)]
        rw [upd_at, if_neg (by decide)]
        rw [show (1 : Int32).toInt.toNat = 1 from by decide, e4]
        decide
  refine ok_bind (x_begin _ _ _ _ _ (by rw [hn]; decide) (by rw [hn]; decide)) (fun r1 g => ?_)
  obtain ⟨g1, g2, g3⟩ := g
  rw [hn] at g1 g3
  rw [h16 FU (by rw [FU_eq]; decide) _ _ _ _ _ _ _ _ _ (by decide), h70 FU (by rw [FU_eq]; decide) _ _ _ _ _ _ _ _ _ (by decide), h113 FU (by rw [FU_eq]; decide) _ _ _ _ _ _ _ _ _ (by decide)]
  exact h163 FU (by rw [FU_eq]; decide) _ _ _ _ _ _ _ _ _ (by decide) g1 g2 (g3 0 (by decide)).2 (g3 1 (by decide)).2
