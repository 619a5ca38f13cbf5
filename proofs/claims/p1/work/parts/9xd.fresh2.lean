/-! questions on the fresh netlists -/
set_option maxHeartbeats 400000 in
theorem fx_count (x1 : Int32) (c_machine_netlist_toldNets : Int32) (c_machine_netlist_nets : Int32) (c_machine_netlist_parts : Nat → Int32) (c_machine_netlist_contacts : Nat → Int32) (c_machine_netlist_makes : Nat → Int32) (c_machine_netlist_period : Nat → Int32) (c_machine_netlist_onTime : Nat → Int32) (c_machine_netlist_netOf : Nat → Int32) (c_machine_wear_stuckAt : Nat → Int32) (c_machine_wear_dusty : Nat → Int32) (c_machine_ways_nets : Int32) (c_machine_ways_links : Int32) (c_machine_ways_firstLink : Nat → Int32) (c_machine_ways_nextLink : Nat → Int32) (c_machine_ways_leadsTo : Nat → Int32) (c_machine_ways_lets : Nat → Int32) (c_machine_ways_powers : Nat → Int32) (c_machine_ways_reached : Nat → Int32) (c_state_keys : Int32) (c_state_time : Int32) (c_state_positions : Nat → Int32) (c_history_size : Int32) (hp : ∀ s : Nat, s < 5 → c_machine_netlist_parts s = 0) (hN : NS c_machine_netlist_parts c_machine_netlist_contacts) (hT : c_machine_netlist_toldNets = 0) (ht : c_state_time = 0) (hs : c_history_size = 0) : Ok (f_X10_count x1 c_machine_netlist_toldNets c_machine_netlist_nets c_machine_netlist_parts c_machine_netlist_contacts c_machine_netlist_makes c_machine_netlist_period c_machine_netlist_onTime c_machine_netlist_netOf c_machine_wear_stuckAt c_machine_wear_dusty c_machine_ways_nets c_machine_ways_links c_machine_ways_firstLink c_machine_ways_nextLink c_machine_ways_leadsTo c_machine_ways_lets c_machine_ways_powers c_machine_ways_reached c_state_keys c_state_time c_state_positions c_history_size) (fun r => r.1 = if 0 ≤ x1.toInt ∧ x1.toInt ≤ 8 then 0 else -1) := by
  unfold f_X10_count f_X10_count_52
  refine ok_if (fun a => ok_bad (by rw [a]; decide) (ok_some ?_)) (fun a0 => ?_)
  · show c_machine_netlist_parts x1.toNatClampNeg = _
    rw [a, show (0 : Int32).toNatClampNeg = 0 from by decide, hp 0 (by decide), if_pos (by decide)]
  refine ok_if (fun a => ok_bad (by rw [a]; decide) (ok_some ?_)) (fun a1 => ?_)
  · show c_machine_netlist_parts x1.toNatClampNeg = _
    rw [a, show (1 : Int32).toNatClampNeg = 1 from by decide, hp 1 (by decide), if_pos (by decide)]
  refine ok_if (fun a => ok_bad (by rw [a]; decide) (ok_some ?_)) (fun a2 => ?_)
  · show c_machine_netlist_parts x1.toNatClampNeg = _
    rw [a, show (2 : Int32).toNatClampNeg = 2 from by decide, hp 2 (by decide), if_pos (by decide)]
  refine ok_if (fun a => ok_bad (by rw [a]; decide) (ok_some ?_)) (fun a3 => ?_)
  · show c_machine_netlist_parts x1.toNatClampNeg = _
    rw [a, show (3 : Int32).toNatClampNeg = 3 from by decide, hp 3 (by decide), if_pos (by decide)]
  refine ok_if (fun a => ok_bad (by rw [a]; decide) (ok_some ?_)) (fun a4 => ?_)
  · show c_machine_netlist_parts x1.toNatClampNeg = _
    rw [a, show (4 : Int32).toNatClampNeg = 4 from by decide, hp 4 (by decide), if_pos (by decide)]
  refine ok_if (fun a => ok_some ?_) (fun a5 => ?_)
  · show c_machine_netlist_toldNets = _
    rw [a, hT, if_pos (by decide)]
  refine ok_if (fun a => ok_some ?_) (fun a6 => ?_)
  · show c_state_time = _
    rw [a, ht, if_pos (by decide)]
  refine ok_if (fun a => ?_) (fun a7 => ?_)
  · refine ok_bind (s_X2_settle _ _ _ _ _ _ _ _ _ _ _ _ _ _ _ _ _ _ _ _ hN) (fun r9 _ => ?_)
    unfold f_X2_shortNets
    have go : ∀ n, 0 < n → ∀ (w p : _), f_X2_shortNets_4 c_machine_netlist_toldNets w p n 0 0 = some 0 := by
      intro n hn w p
      cases n with
      | zero => exact absurd hn (Nat.lt_irrefl _)
      | succ n =>
        unfold f_X2_shortNets_4
        rw [hT, if_pos (by decide)]
    refine ok_eq (go FU (by rw [FU_eq]; decide) _ _) (ok_some ?_)
    show (0 : Int32) = _
    rw [a, if_pos (by decide)]
  refine ok_if (fun a => ok_some ?_) (fun a8 => ok_some ?_)
  · show c_history_size = _
    rw [a, hs, if_pos (by decide)]
  · show (-1 : Int32) = _
    have n0 := ne_i a0 l_0
    have n1 := ne_i a1 l_1
    have n2 := ne_i a2 l_2
    have n3 := ne_i a3 l_3
    have n4 := ne_i a4 l_4
    have n5 := ne_i a5 l_5
    have n6 := ne_i a6 l_6
    have n7 := ne_i a7 l_7
    have n8 := ne_i a8 l_8
    rw [if_neg (by omega)]
set_option maxHeartbeats 400000 in
theorem fm_count_66 (c_side : Int32) (c_kept : Int32) (c_many : Nat → Int32) (c_one : Nat → Int32) (c_two : Nat → Int32) (c_kinds : Nat → Int32) (c_kindBits : Nat → Int32) (c_netOf : Nat → Int32) (c_isTold : Nat → Int32) (c_state : Nat → Int32) (c_stuck : Nat → Int32) (c_dusty : Nat → Int32) (σ : Nat) (h : FMs σ c_side c_many c_netOf c_isTold) : ∀ (n : Nat) (x1 : Int32) (x2 : Int32) (x3 : Int32) (c_joined : Nat → Int32) (c_live : Nat → Int32) (c_ground : Nat → Int32), 0 ≤ x3.toInt → x3.toInt ≤ 954 → 954 < x3.toInt + n → x2 = 0 → Ok (f_X11_count_66 c_side c_kept c_many c_one c_two c_kinds c_kindBits c_netOf c_isTold c_state c_stuck c_dusty n x1 x2 x3 c_joined c_live c_ground) (fun r => r.1 = 0)
  | 0, x1, x2, x3, c_joined, c_live, c_ground, h1, h2, h3, e => by exfalso; omega
  | n + 1, x1, x2, x3, c_joined, c_live, c_ground, h1, h2, h3, e => by
    unfold f_X11_count_66
    refine ok_if (fun a => ok_some e) (fun a => ?_)
    rw [tI_le, l_954] at a
    have hs := h.1
    have hσ := h.2.1
    have b1 : (954 * c_side + x3).toInt = 954 * σ + x3.toInt := by ((try simp only [tI_lt, tI_le, tI_eq, tI_add, tI_sub, tI_mul, tI_nat, Int32.reduceToInt, Int.reduceToNat, fe_0, fe_1, fe_2, fe_3, fe_4, fe_5]) <;> (try simp (disch := omega) only [tI_bm]) <;> omega)
    have b2 : (954 * c_side + x3).toNatClampNeg = 954 * σ + x3.toInt.toNat := by rw [tI_nat, b1]; omega
    unfold f_X11_isNet
    refine ok_bind (P := fun r => r = 0) (ok_bad (by omega) ?_) (fun r hr => ?_)
    · rw [b2, (h.2.2.2 x3.toInt.toNat (by omega)).2, if_pos rfl]
      exact ok_some rfl
    · rw [if_pos hr]
      unfold f_X11_count_123
      exact ok_vlet (fm_count_66 c_side c_kept c_many c_one c_two c_kinds c_kindBits c_netOf c_isTold c_state c_stuck c_dusty σ h n _ _ _ _ _ _ (by ((try simp only [tI_lt, tI_le, tI_eq, tI_add, tI_sub, tI_mul, tI_nat, Int32.reduceToInt, Int.reduceToNat, fe_0, fe_1, fe_2, fe_3, fe_4, fe_5]) <;> (try simp (disch := omega) only [tI_bm]) <;> omega)) (by ((try simp only [tI_lt, tI_le, tI_eq, tI_add, tI_sub, tI_mul, tI_nat, Int32.reduceToInt, Int.reduceToNat, fe_0, fe_1, fe_2, fe_3, fe_4, fe_5]) <;> (try simp (disch := omega) only [tI_bm]) <;> omega)) (by ((try simp only [tI_lt, tI_le, tI_eq, tI_add, tI_sub, tI_mul, tI_nat, Int32.reduceToInt, Int.reduceToNat, fe_0, fe_1, fe_2, fe_3, fe_4, fe_5]) <;> (try simp (disch := omega) only [tI_bm]) <;> omega)) e)
set_option maxHeartbeats 400000 in
theorem fm_count (x1 : Int32) (c_side : Int32) (c_kept : Int32) (c_many : Nat → Int32) (c_one : Nat → Int32) (c_two : Nat → Int32) (c_kinds : Nat → Int32) (c_kindBits : Nat → Int32) (c_netOf : Nat → Int32) (c_isTold : Nat → Int32) (c_state : Nat → Int32) (c_stuck : Nat → Int32) (c_dusty : Nat → Int32) (c_joined : Nat → Int32) (c_live : Nat → Int32) (c_ground : Nat → Int32) (σ : Nat) (h : FMs σ c_side c_many c_netOf c_isTold) (ht : c_state 344 = 0) (hk : c_kept = 0) : Ok (f_X11_count x1 c_side c_kept c_many c_one c_two c_kinds c_kindBits c_netOf c_isTold c_state c_stuck c_dusty c_joined c_live c_ground) (fun r => r.1 = if 0 ≤ x1.toInt ∧ x1.toInt ≤ 8 then 0 else -1) := by
  unfold f_X11_count f_X11_count_52
  have p52 : ∀ k : Int32, x1 = k → 0 ≤ k.toInt ∧ k.toInt < 5 → Ok (((f_X11_here x1 c_side c_many)).bind fun r1 => some (r1, c_joined, c_live, c_ground)) (fun r => r.1 = if 0 ≤ x1.toInt ∧ x1.toInt ≤ 8 then 0 else -1) := by
    intro k e q
    refine ok_eq (fm_here h x1 (by rw [e]; exact q.1) (by rw [e]; exact q.2)) (ok_some ?_)
    show (0 : Int32) = _
    rw [e, if_pos (by omega)]
  have p58 : ∀ k : Int32, x1 = k → 0 ≤ k.toInt ∧ k.toInt ≤ 8 → Ok (f_X11_count_58 c_side c_kept c_many c_one c_two c_kinds c_kindBits c_netOf c_isTold c_state c_stuck c_dusty x1 c_joined c_live c_ground) (fun r => r.1 = if 0 ≤ x1.toInt ∧ x1.toInt ≤ 8 then 0 else -1) := by
    intro k e q
    unfold f_X11_count_58
    refine ok_bind (fm_look _ _ _ _ _ _ _ _ _ _ _ _ _ σ c_isTold h) (fun r1 _ => ok_mono (fm_count_66 c_side c_kept c_many c_one c_two c_kinds c_kindBits c_netOf c_isTold c_state c_stuck c_dusty σ h FU _ _ _ _ _ _ (by decide) (by decide) (by rw [FU_eq]; decide) rfl) (fun r hr => ?_))
    rw [e, if_pos q]; exact hr
  refine ok_if (fun a => p52 _ a (by decide)) (fun a0 => ok_if (fun a => p52 _ a (by decide)) (fun a1 => ok_if (fun a => p52 _ a (by decide)) (fun a2 => ok_if (fun a => p52 _ a (by decide)) (fun a3 => ok_if (fun a => p52 _ a (by decide)) (fun a4 => ok_if (fun a => p58 _ a (by decide)) (fun a5 => ok_if (fun a => ok_bad (by decide) (ok_some ?_)) (fun a6 => ok_if (fun a => p58 _ a (by decide)) (fun a7 => ok_if (fun a => ok_some ?_) (fun a8 => ok_some ?_)))))))))
  · show c_state (344 : Int32).toNatClampNeg = _
    rw [show (344 : Int32).toNatClampNeg = 344 from by decide, ht, a, if_pos (by decide)]
  · show c_kept = _
    rw [a, hk, if_pos (by decide)]
  · show (-1 : Int32) = _
    have n0 := ne_i a0 l_0
    have n1 := ne_i a1 l_1
    have n2 := ne_i a2 l_2
    have n3 := ne_i a3 l_3
    have n4 := ne_i a4 l_4
    have n5 := ne_i a5 l_5
    have n6 := ne_i a6 l_6
    have n7 := ne_i a7 l_7
    have n8 := ne_i a8 l_8
    rw [if_neg (by omega)]
set_option maxHeartbeats 400000 in
theorem fx_net (x1 : Int32) (x2 : Int32) (x3 : Int32) (c_machine_netlist_nets : Int32) (c_machine_netlist_parts : Nat → Int32) (c_machine_netlist_contacts : Nat → Int32) (c_machine_netlist_makes : Nat → Int32) (c_machine_netlist_period : Nat → Int32) (c_machine_netlist_onTime : Nat → Int32) (c_machine_netlist_netOf : Nat → Int32) (c_machine_wear_stuckAt : Nat → Int32) (c_machine_wear_dusty : Nat → Int32) (c_machine_ways_nets : Int32) (c_machine_ways_links : Int32) (c_machine_ways_firstLink : Nat → Int32) (c_machine_ways_nextLink : Nat → Int32) (c_machine_ways_leadsTo : Nat → Int32) (c_machine_ways_lets : Nat → Int32) (c_machine_ways_powers : Nat → Int32) (c_machine_ways_reached : Nat → Int32) (c_state_keys : Int32) (c_state_time : Int32) (c_state_positions : Nat → Int32) (hp : ∀ s : Nat, s < 5 → c_machine_netlist_parts s = 0) (hn : c_machine_netlist_nets = 2) (h0 : c_machine_netlist_netOf 952 = 0) (h1 : c_machine_netlist_netOf 953 = 1) : Ok (f_X10_net x1 x2 x3 c_machine_netlist_nets c_machine_netlist_parts c_machine_netlist_contacts c_machine_netlist_makes c_machine_netlist_period c_machine_netlist_onTime c_machine_netlist_netOf c_machine_wear_stuckAt c_machine_wear_dusty c_machine_ways_nets c_machine_ways_links c_machine_ways_firstLink c_machine_ways_nextLink c_machine_ways_leadsTo c_machine_ways_lets c_machine_ways_powers c_machine_ways_reached c_state_keys c_state_time c_state_positions) (fun r => r.1 = if x1 = 5 ∧ x2 = 0 ∧ 0 ≤ x3.toInt ∧ x3.toInt < 2 then x3 + 1 else -1) := by
  unfold f_X10_net
  refine ok_eq (fx_endAt x1 x2 x3 _ _ hp) ?_
  by_cases a : x1 = 5 ∧ x2 = 0 ∧ 0 ≤ x3.toInt ∧ x3.toInt < 2
  · rw [if_pos a, if_pos a]
    have x01 : x3 = 0 ∨ x3 = 1 := by
      have : x3.toInt = 0 ∨ x3.toInt = 1 := by omega
      rcases this with q | q
      · exact .inl (Int32.toInt_inj.mp (by rw [q, l_0]))
      · exact .inr (Int32.toInt_inj.mp (by rw [q, l_1]))
    rw [if_neg (by rcases x01 with q | q <;> rw [q] <;> decide)]
    refine ok_bind (fx_settle _ _ _ _ _ _ _ _ _ _ _ _ _ _ _ _ _ _ _ _ hp hn h0 h1) (fun r2 g => ?_)
    obtain ⟨g1, g2, g3⟩ := g
    unfold f_X2_powerAt f_X8_at
    rcases x01 with q | q
    · subst q
      rw [if_neg (by decide), if_pos (by decide)]
      refine ok_bind (P := fun r => r = 1) (ok_bad (by decide) (ok_bind (P := fun r => r = 1) ?_ (fun r hr => ok_some hr))) (fun r hr => ok_some (by show r = 0 + 1; rw [hr]; decide))
      rw [show ((952 : Int32) + 0).toNatClampNeg = 952 from by decide, h0, if_neg (by decide), g1, if_pos (by decide)]
      refine ok_bad (by decide) (ok_some ?_)
      rw [show (0 : Int32).toNatClampNeg = 0 from by decide]
      exact g2
    · subst q
      rw [if_neg (by decide), if_pos (by decide)]
      refine ok_bind (P := fun r => r = 2) (ok_bad (by decide) (ok_bind (P := fun r => r = 2) ?_ (fun r hr => ok_some hr))) (fun r hr => ok_some (by show r = 1 + 1; rw [hr]; decide))
      rw [show ((952 : Int32) + 1).toNatClampNeg = 953 from by decide, h1, if_neg (by decide), g1, if_pos (by decide)]
      refine ok_bad (by decide) (ok_some ?_)
      rw [show (1 : Int32).toNatClampNeg = 1 from by decide]
      exact g3
  · rw [if_neg a, if_neg a, if_pos rfl]
    exact ok_some rfl
set_option maxHeartbeats 400000 in
theorem fm_net (x1 : Int32) (x2 : Int32) (x3 : Int32) (c_side : Int32) (c_many : Nat → Int32) (c_one : Nat → Int32) (c_two : Nat → Int32) (c_kinds : Nat → Int32) (c_kindBits : Nat → Int32) (c_netOf : Nat → Int32) (c_state : Nat → Int32) (c_stuck : Nat → Int32) (c_dusty : Nat → Int32) (c_joined : Nat → Int32) (c_live : Nat → Int32) (c_ground : Nat → Int32) (σ : Nat) (isTold : Nat → Int32) (h : FMs σ c_side c_many c_netOf isTold) : Ok (f_X11_net x1 x2 x3 c_side c_many c_one c_two c_kinds c_kindBits c_netOf c_state c_stuck c_dusty c_joined c_live c_ground) (fun r => r.1 = if x1 = 5 ∧ x2 = 0 ∧ 0 ≤ x3.toInt ∧ x3.toInt < 2 then x3 + 1 else -1) := by
  unfold f_X11_net
  refine ok_if (fun a => ok_if (fun b => ok_if (fun c => ok_some ?_) (fun c => ok_if (fun d => ?_) (fun d => ok_some ?_))) (fun b => ok_some ?_)) (fun a => ?_)
  · rw [tI_lt, l_0] at c
    show (-1 : Int32) = _
    rw [if_neg (by omega)]
  · rw [tI_lt, l_0] at c
    rw [tI_le, l_1] at d
    rw [if_pos ⟨a, b, by omega, by omega⟩]
    have x01 : x3 = 0 ∨ x3 = 1 := by
      have : x3.toInt = 0 ∨ x3.toInt = 1 := by omega
      rcases this with q | q
      · exact .inl (Int32.toInt_inj.mp (by rw [q, l_0]))
      · exact .inr (Int32.toInt_inj.mp (by rw [q, l_1]))
    unfold f_X11_net_93 f_X11_net_116
    refine ok_bind (fm_look _ _ _ _ _ _ _ _ _ _ _ _ _ σ isTold h) (fun r1 g => ?_)
    have hj : ∀ e : Nat, e < 954 → (r1.1 e).toInt = e := fun e he => (g e he).1
    refine ok_eq (fm_group x3 c_side c_netOf r1.1 h hj (by omega) (by omega)) (ok_bad (by omega) ?_)
    have g3 := g x3.toInt.toNat (by omega)
    rw [tI_nat, g3.2.1]
    rcases x01 with q | q
    · subst q
      rw [show (0 : Int32).toInt.toNat = 0 from by decide, if_pos rfl, if_neg (by decide)]
      refine ok_eq (fm_group 0 c_side c_netOf r1.1 h hj (by decide) (by decide)) (ok_bad (by decide) ?_)
      have v0 : r1.2.2 0 = 0 := by rw [(g 0 (by decide)).2.2]; rfl
      rw [tI_nat, show (0 : Int32).toInt.toNat = 0 from by decide, v0, if_pos rfl]
      exact ok_some rfl
    · subst q
      rw [show (1 : Int32).toInt.toNat = 1 from by decide, show (if (1 : Nat) = 0 then (1 : Int32) else 0) = 0 from rfl, if_pos rfl]
      refine ok_eq (fm_group 1 c_side c_netOf r1.1 h hj (by decide) (by decide)) (ok_bad (by decide) ?_)
      have v1 : r1.2.2 1 = 1 := by rw [(g 1 (by decide)).2.2]; rfl
      rw [tI_nat, show (1 : Int32).toInt.toNat = 1 from by decide, v1, if_neg (by decide)]
      exact ok_some rfl
  · rw [tI_le, l_1] at d
    show (-1 : Int32) = _
    rw [if_neg (by omega)]
  · show (-1 : Int32) = _
    rw [if_neg (fun q => b q.2.1)]
  · have no : ∀ q : Int32, q = -1 → q = if x1 = 5 ∧ x2 = 0 ∧ 0 ≤ x3.toInt ∧ x3.toInt < 2 then x3 + 1 else -1 := fun q e => by rw [e, if_neg (fun z => a z.1)]
    refine ok_if (fun b => ok_some (no _ rfl)) (fun b => ok_if (fun c => ok_some (no _ rfl)) (fun c => ok_if (fun d => ok_some (no _ rfl)) (fun d => ?_)))
    rw [tI_lt, l_0] at b d
    rw [tI_lt, l_4] at c
    refine ok_eq (fm_here h x1 (by omega) (by omega)) ?_
    rw [if_pos (by rw [tI_le, l_0]; omega)]
    exact ok_some (no _ rfl)
set_option maxHeartbeats 400000 in
theorem fm_race_37 (c_side : Int32) (c_many : Nat → Int32) (c_one : Nat → Int32) (c_two : Nat → Int32) (c_kinds : Nat → Int32) (c_kindBits : Nat → Int32) (c_netOf : Nat → Int32) (c_stuck : Nat → Int32) (c_dusty : Nat → Int32) (σ : Nat) (isTold : Nat → Int32) (h : FMs σ c_side c_many c_netOf isTold) : ∀ (n : Nat) (x1 : Int32) (x2 : Int32) (x3 : Int32) (x4 : Int32) (c_raceTick : Int32) (c_raceMany : Int32) (c_state : Nat → Int32) (c_joined : Nat → Int32) (c_live : Nat → Int32) (c_ground : Nat → Int32) (c_part : Nat → Int32) (c_begun : Nat → Int32) (c_ahead : Nat → Int32) (c_due : Nat → Int32) (c_order : Nat → Int32) (c_picked : Nat → Int32) (c_raceCoils : Nat → Int32) (c_after : Nat → Int32) (c_used : Nat → Int32), x1.toInt ≤ 16 → 1 ≤ x4.toInt → x4.toInt ≤ 17 → 20 < x4.toInt + n → x2 = 0 → x3 = -1 → Ok (f_X11_race_37 c_side c_many c_one c_two c_kinds c_kindBits c_netOf c_stuck c_dusty n x1 x2 x3 x4 c_raceTick c_raceMany c_state c_joined c_live c_ground c_part c_begun c_ahead c_due c_order c_picked c_raceCoils c_after c_used) (fun r => r.1 = 0)
  | 0, x1, x2, x3, x4, c_raceTick, c_raceMany, c_state, c_joined, c_live, c_ground, c_part, c_begun, c_ahead, c_due, c_order, c_picked, c_raceCoils, c_after, c_used, h1, h2, h3, h4, e1, e2 => by exfalso; omega
  | n + 1, x1, x2, x3, x4, c_raceTick, c_raceMany, c_state, c_joined, c_live, c_ground, c_part, c_begun, c_ahead, c_due, c_order, c_picked, c_raceCoils, c_after, c_used, h1, h2, h3, h4, e1, e2 => by
    unfold f_X11_race_37
    refine ok_if (fun a => ?_) (fun a => ?_)
    · unfold f_X11_race_213
      refine ok_bind (s_X11_copy _ _) (fun r1 _ => ?_)
      rw [if_pos e2, if_pos e1]
      exact ok_some rfl
    · rw [tI_lt] at a
      rw [if_pos e2]
      refine ok_bind (s_X11_copy _ _) (fun r1 _ => ok_bind (fm_ticks _ _ _ _ _ _ _ _ _ _ _ _ _ _ σ isTold h) (fun r2 _ => ?_))
      have go : ∀ m, 0 < m → Ok (f_X11_race_70 (f_X11_race_37 c_side c_many c_one c_two c_kinds c_kindBits c_netOf c_stuck c_dusty n) c_side c_many c_one c_two c_kinds c_kindBits c_netOf c_stuck c_dusty m x1 x2 x3 x4 (0 : Int32) (0 : Int32) c_raceTick c_raceMany r2.1 r2.2.1 r2.2.2.1 r2.2.2.2 c_part c_begun r1 c_due c_order c_picked c_raceCoils c_after c_used) (fun r => r.1 = 0) := by
        intro m hm
        cases m with
        | zero => exact absurd hm (Nat.lt_irrefl _)
        | succ m =>
          unfold f_X11_race_70
          refine ok_eq (fm_here h 0 (by decide) (by decide)) ?_
          rw [if_pos (by decide), if_pos e1, if_pos (by decide)]
          unfold f_X11_race_137 f_X11_race_207
          rw [if_pos (by decide)]
          exact ok_vlet (fm_race_37 c_side c_many c_one c_two c_kinds c_kindBits c_netOf c_stuck c_dusty σ isTold h n _ _ _ _ _ _ _ _ _ _ _ _ _ _ _ _ _ _ _ h1 (by ((try simp only [tI_lt, tI_le, tI_eq, tI_add, tI_sub, tI_mul, tI_nat, Int32.reduceToInt, Int.reduceToNat, fe_0, fe_1, fe_2, fe_3, fe_4, fe_5]) <;> (try simp (disch := omega) only [tI_bm]) <;> omega)) (by ((try simp only [tI_lt, tI_le, tI_eq, tI_add, tI_sub, tI_mul, tI_nat, Int32.reduceToInt, Int.reduceToNat, fe_0, fe_1, fe_2, fe_3, fe_4, fe_5]) <;> (try simp (disch := omega) only [tI_bm]) <;> omega)) (by ((try simp only [tI_lt, tI_le, tI_eq, tI_add, tI_sub, tI_mul, tI_nat, Int32.reduceToInt, Int.reduceToNat, fe_0, fe_1, fe_2, fe_3, fe_4, fe_5]) <;> (try simp (disch := omega) only [tI_bm]) <;> omega)) rfl e2)
      exact go FU (by rw [FU_eq]; decide)
set_option maxHeartbeats 400000 in
theorem fm_race (x1 : Int32) (c_side : Int32) (c_raceTick : Int32) (c_raceMany : Int32) (c_many : Nat → Int32) (c_one : Nat → Int32) (c_two : Nat → Int32) (c_kinds : Nat → Int32) (c_kindBits : Nat → Int32) (c_netOf : Nat → Int32) (c_state : Nat → Int32) (c_stuck : Nat → Int32) (c_dusty : Nat → Int32) (c_joined : Nat → Int32) (c_live : Nat → Int32) (c_ground : Nat → Int32) (c_part : Nat → Int32) (c_begun : Nat → Int32) (c_ahead : Nat → Int32) (c_due : Nat → Int32) (c_order : Nat → Int32) (c_picked : Nat → Int32) (c_raceCoils : Nat → Int32) (c_after : Nat → Int32) (c_used : Nat → Int32) (σ : Nat) (isTold : Nat → Int32) (h : FMs σ c_side c_many c_netOf isTold) : Ok (f_X11_race x1 c_side c_raceTick c_raceMany c_many c_one c_two c_kinds c_kindBits c_netOf c_state c_stuck c_dusty c_joined c_live c_ground c_part c_begun c_ahead c_due c_order c_picked c_raceCoils c_after c_used) (fun r => r.1 = if 0 ≤ x1.toInt ∧ x1.toInt ≤ 16 then 0 else -2) := by
  unfold f_X11_race
  refine ok_if (fun a => ok_some ?_) (fun a => ok_if (fun b => ?_) (fun b => ok_some ?_))
  · rw [tI_lt, l_0] at a
    show (-2 : Int32) = _
    rw [if_neg (by omega)]
  · rw [tI_lt, l_0] at a
    rw [tI_le, l_16] at b
    refine ok_bind (s_X11_copy _ _) (fun r1 _ => ok_mono (fm_race_37 c_side c_many c_one c_two c_kinds c_kindBits c_netOf c_stuck c_dusty σ isTold h FU _ _ _ _ _ _ _ _ _ _ _ _ _ _ _ _ _ _ _ b (by decide) (by decide) (by rw [FU_eq]; decide) rfl rfl) (fun r hr => ?_))
    rw [if_pos (by omega), hr]
  · rw [tI_le, l_16] at b
    show (-2 : Int32) = _
    rw [if_neg (by omega)]
