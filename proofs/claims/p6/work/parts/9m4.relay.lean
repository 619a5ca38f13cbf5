/-! relay: both sides -/
set_option maxHeartbeats 400000 in
theorem pns_lt {S : List StT} {toldNets : Int32} {parts pick drop cont makes per on_ : Nat → Int32} {names : Nat → Nat → Int64} (hI : IX S toldNets parts names pick drop cont makes per on_) (hA : allPin S (pnsOf S)) : (∀ q ∈ pnsOf S, enS S q.1 q.2.1 < 954) ∧ ∀ e, TLD (enS S) (pnsOf S) e → exS S e := by
  have hok := hI.1.1
  refine ⟨fun q hq => (exS_VIS hI.1 _ (enS_ex hok (hA q hq))).1, ?_⟩
  rintro e ⟨q, hq, he⟩
  rw [← he]
  exact enS_ex hok (hA q hq)
set_option maxHeartbeats 400000 in
theorem exS_0 {S : List StT} {i j : Nat} (hk : ∀ r, nkS S r ≤ 6) (hi : i < 40) (hj : j < 20) (h : exS S (2 + 20 * i + j)) : i < cnt 0 S ∧ j < 2 + 3 * nkS S i := by
  rcases h with h | ⟨r, k, h1, h2, h3⟩ | ⟨r, k, h1, h2, h3⟩ | ⟨r, k, h1, h2, h3⟩ | ⟨r, k, h1, h2, h3⟩ | ⟨r, k, h1, h2, h3⟩
  · omega
  · have := hk r
    have e1 : r = i := by omega
    have e2 : k = j := by omega
    rw [← e1, ← e2]
    exact ⟨h1, h2⟩
  all_goals omega
set_option maxHeartbeats 400000 in
theorem p_told (c_parts : Nat → Int32) (c_contacts : Nat → Int32) (c_told : Nat → Int32) (c_side c_x : Int32) (c_many c_one c_two c_kinds c_kindBits c_netOf c_isTold c_state c_stuck c_dusty c_joined c_live c_ground : Nat → Int32) {σ : Nat} (hs : c_side.toInt = (σ : Int)) (hσ : σ ≤ 1) (hN : NS c_parts c_contacts) (i : Nat) (hi : (i : Int) < (c_parts 0).toInt) (hx : c_x.toInt = i) (hT : ∀ j : Nat, j < 20 → ((j : Int) < 2 + 3 * (c_contacts i).toInt ∧ ¬ c_told (20 * i + j) = 0 ↔ ¬ c_isTold (954 * σ + (2 + 20 * i + j)) = 0)) : ∀ (n m j : Nat) (x1 x2 x3 y1 y2 : Int32), x1 = c_x → y2.toInt = j → x3 = y2 → x2 = y1 → j ≤ 20 → P2 (f_X3_toldEnds_4 c_parts c_contacts c_told n x1 x2 x3) (f_X11_relay_143 c_side c_many c_one c_two c_kinds c_kindBits c_netOf c_isTold c_state c_stuck c_dusty m c_x y1 y2 c_joined c_live c_ground) (fun a b => a = b.1)
  | 0, m, j, x1, x2, x3, y1, y2, e1, h2, e3, e2, hj => p2_n1
  | n + 1, 0, j, x1, x2, x3, y1, y2, e1, h2, e3, e2, hj => p2_n2
  | n + 1, m + 1, j, x1, x2, x3, y1, y2, e1, h2, e3, e2, hj => by
    subst e1 e2 e3
    unfold f_X3_toldEnds_4 f_X11_relay_143
    refine p2_ifs (fun _ => p2_some rfl) (fun a => ?_)
    rw [tI_le, l_20] at a
    have ih := p_told c_parts c_contacts c_told c_side x1 c_many c_one c_two c_kinds c_kindBits c_netOf c_isTold c_state c_stuck c_dusty c_joined c_live c_ground hs hσ hN i hi hx hT n m (j + 1)
    have hNc := hN.2.2.2.2.2 i (by have := hN.1.2; omega)
    have h40 := hN.1.2
    have e1 : (x3 + 1).toInt = ((j + 1 : Nat) : Int) := by ((try simp only [tI_lt, tI_le, tI_eq, tI_add, tI_sub, tI_mul, tI_nat, Int32.reduceToInt, Int.reduceToNat, fe_0, fe_1, fe_2, fe_3, fe_4, fe_5]) <;> (try simp (disch := omega) only [tI_bm]) <;> omega)
    have tj := hT j (by omega)
    have ei : (954 * c_side + 2 + 20 * x1 + x3).toNatClampNeg = 954 * σ + (2 + 20 * i + j) := by
      have : (954 * c_side + 2 + 20 * x1 + x3).toInt = 954 * σ + 2 + 20 * i + j := by ((try simp only [tI_lt, tI_le, tI_eq, tI_add, tI_sub, tI_mul, tI_nat, Int32.reduceToInt, Int.reduceToNat, fe_0, fe_1, fe_2, fe_3, fe_4, fe_5]) <;> (try simp (disch := omega) only [tI_bm]) <;> omega)
      rw [tI_nat, this]; omega
    have p0 : (0 : Int32).toInt = 0 := by decide
    refine p2_l (x_endAt2 (0 : Int32) _ _ _ _ hN) (fun r1 h1 => p2_b2 (fun _ => ?_))
    rw [ei]
    have hV : VE 0 x1 x3 c_parts c_contacts ↔ (j : Int) < 2 + 3 * (c_contacts i).toInt := by
      unfold VE hasP
      rw [if_pos rfl, p0, hx, show (0 : Int).toNat = 0 from rfl, show ((i : Nat) : Int).toNat = i from Int.toNat_natCast i]
      constructor
      · rintro ⟨-, -, q⟩; omega
      · intro q
        exact ⟨.inl ⟨by decide, by decide, by omega, hi⟩, by omega, by omega⟩
    have stay : ∀ y1 : Int32, y1 = 0 → P2 (f_X3_toldEnds_38 (f_X3_toldEnds_4 c_parts c_contacts c_told n) c_parts c_contacts c_told x1 x2 x3) (f_X11_relay_183 (f_X11_relay_143 c_side c_many c_one c_two c_kinds c_kindBits c_netOf c_isTold c_state c_stuck c_dusty m) c_side c_many c_one c_two c_kinds c_kindBits c_netOf c_isTold c_state c_stuck c_dusty x1 x3 x2 y1 c_joined c_live c_ground) (fun a b => a = b.1) := fun y1 hy => by
      unfold f_X3_toldEnds_38 f_X11_relay_183
      refine p2_v1 (p2_v2 (p2_v2 (ih x1 x2 (x3 + 1) (x2 + y1) (x3 + 1) rfl e1 rfl ?_ (by omega))))
      rw [hy, Int32.add_zero]
    rcases h1 with ⟨q1, q2⟩ | ⟨q1, q2, q3⟩
    · rw [q1, if_pos rfl]
      refine p2_if2 (fun _ => stay 0 rfl) (fun z => ?_)
      exact absurd (hV.mpr (tj.mpr z).1) q2
    · rw [if_neg (fun q => by rw [q, l_m1] at q2; omega)]
      refine p2_b1 (fun _ => ?_)
      have ee : r1.toNatClampNeg = 20 * i + j := by
        rw [p0, hx, h2] at q3
        rw [tI_nat, q3, show (0 : Int).toNat = 0 from rfl, Int.toNat_natCast, Int.toNat_natCast, Int.toNat_natCast]
        unfold cEnd
        rw [if_pos rfl, show ce 0 = 0 from rfl]
        omega
      rw [ee]
      have vj := hV.mp q1
      refine p2_if1 (fun z => p2_if2 (fun _ => stay 0 rfl) (fun w => absurd z (tj.mpr w).2)) (fun z => p2_v1 (p2_if2 (fun w => absurd w (tj.mp ⟨vj, z⟩)) (fun _ => ?_)))
      unfold f_X3_toldEnds_38 f_X11_relay_183
      exact p2_v1 (p2_v2 (p2_v2 (ih x1 (x2 + 1) (x3 + 1) (x2 + 1) (x3 + 1) rfl e1 rfl rfl (by omega))))
set_option maxHeartbeats 400000 in
theorem told_same {S : List StT} {σ : Nat} {toldNets nets : Int32} {parts pick drop cont makes per on_ told netOf nM isTold : Nat → Int32} {names : Nat → Nat → Int64} (hI : IX S toldNets parts names pick drop cont makes per on_) (hA : allPin S (pnsOf S)) (hNX : NETX S toldNets nets told netOf) (hNM : NETM σ S nM isTold) (i : Nat) (hi : i < cnt 0 S) (j : Nat) (hj : j < 20) : (j : Int) < 2 + 3 * (cont i).toInt ∧ ¬ told (20 * i + j) = 0 ↔ ¬ isTold (954 * σ + (2 + 20 * i + j)) = 0 := by
  obtain ⟨k1, k2, m0, -⟩ := GS_nk hI.1
  obtain ⟨hlt, hex⟩ := pns_lt hI hA
  obtain ⟨T, N, -, -, -, -, -, -, -, -, tl⟩ := hNX
  obtain ⟨-, tm, -⟩ := hNM
  have kk := k2 i hi
  have a := tl (20 * i + j) (by omega)
  have b := tm (2 + 20 * i + j) (by omega)
  have c := TLD_turn hlt (2 + 20 * i + j) (by omega)
  rw [show (2 + 20 * i + j + 952) % 954 = 20 * i + j by omega] at c
  unfold itM at b
  constructor
  · rintro ⟨-, q⟩
    rcases a with ⟨-, a⟩ | ⟨a, -⟩
    · rcases b with ⟨b, -⟩ | ⟨-, b⟩
      · rw [b]; decide
      · exact absurd (c.mp a) b
    · exact absurd a q
  · intro q
    rcases b with ⟨-, b⟩ | ⟨b, -⟩
    · have := exS_0 k1 (by omega) hj (hex _ b)
      refine ⟨by omega, ?_⟩
      rcases a with ⟨a, -⟩ | ⟨-, a⟩
      · rw [a]; decide
      · exact absurd (c.mpr b) a
    · exact absurd b q
set_option maxHeartbeats 400000 in
theorem p_relay (x1 : Int32) (x2 : Int32) (c_machine_netlist_nets : Int32) (c_machine_netlist_parts : Nat → Int32) (c_machine_netlist_pickTime : Nat → Int32) (c_machine_netlist_dropTime : Nat → Int32) (c_machine_netlist_contacts : Nat → Int32) (c_machine_netlist_makes : Nat → Int32) (c_machine_netlist_period : Nat → Int32) (c_machine_netlist_onTime : Nat → Int32) (c_machine_netlist_told : Nat → Int32) (c_machine_netlist_netOf : Nat → Int32) (c_machine_wear_stuckAt : Nat → Int32) (c_machine_wear_dusty : Nat → Int32) (c_machine_ways_nets : Int32) (c_machine_ways_links : Int32) (c_machine_ways_firstLink : Nat → Int32) (c_machine_ways_nextLink : Nat → Int32) (c_machine_ways_leadsTo : Nat → Int32) (c_machine_ways_lets : Nat → Int32) (c_machine_ways_powers : Nat → Int32) (c_machine_ways_reached : Nat → Int32) (c_state_picked : Int64) (c_state_keys : Int32) (c_state_time : Int32) (c_state_counts : Nat → Int32) (c_state_positions : Nat → Int32) (c_side : Int32) (c_many c_one c_two c_kinds c_kindBits c_netOf c_stuck c_dusty c_state : Nat → Int32) (c_isTold c_joined c_live c_ground : Nat → Int32) {S : List StT} {σ : Nat} {toldNets : Int32} {names : Nat → Nat → Int64} {nameSize nm : Nat → Int32} (hA : allPin S (pnsOf S)) (hI : IX S toldNets c_machine_netlist_parts names c_machine_netlist_pickTime c_machine_netlist_dropTime c_machine_netlist_contacts c_machine_netlist_makes c_machine_netlist_period c_machine_netlist_onTime) (hIM : IM S σ c_side c_many nameSize c_one c_two c_kinds c_kindBits nm c_netOf) (hNX : NETX S toldNets c_machine_netlist_nets c_machine_netlist_told c_machine_netlist_netOf) (hNM : NETM σ S c_netOf c_isTold) (hW : WR c_machine_wear_stuckAt c_machine_wear_dusty c_stuck c_dusty) (hSR : SR (nkS S) c_state_picked c_state_keys c_state_time c_state_counts c_state_positions c_state) : P2 (f_X10_relay x1 x2 c_machine_netlist_nets c_machine_netlist_parts c_machine_netlist_pickTime c_machine_netlist_dropTime c_machine_netlist_contacts c_machine_netlist_makes c_machine_netlist_period c_machine_netlist_onTime c_machine_netlist_told c_machine_netlist_netOf c_machine_wear_stuckAt c_machine_wear_dusty c_machine_ways_nets c_machine_ways_links c_machine_ways_firstLink c_machine_ways_nextLink c_machine_ways_leadsTo c_machine_ways_lets c_machine_ways_powers c_machine_ways_reached c_state_picked c_state_keys c_state_time c_state_counts c_state_positions) (f_X11_relay x1 x2 c_side c_many c_one c_two c_kinds c_kindBits c_netOf c_isTold c_state c_stuck c_dusty c_joined c_live c_ground) (fun rx rm => rx.1 = rm.1) := by
  unfold f_X10_relay f_X11_relay
  have hN := IXM_NLR hI hIM
  obtain ⟨k1, k2, m0, -⟩ := GS_nk hI.1
  have hp := hI.1.2.2.2.1 0 (by decide)
  have hm := hIM.2.2.1 0 (by decide)
  have hNS := IX_N hI
  have hM := hIM.1
  have hM' := hM
  obtain ⟨hs, hσ, n0, n1, n2, n3, n4, hK, hO1, hO⟩ := hM'
  have e0 : (0 : Int32).toInt = 0 := by decide
  have s1 := hSR.1
  have s5 := hSR.2.2.2.2.1
  refine p2_l (pc_ok (so_X3_has _ _ _)) (fun r1 hr => ?_)
  unfold hasP at hr
  rw [e0, show (0 : Int).toNat = 0 from rfl] at hr
  rcases hr with ⟨e, hr⟩ | ⟨e, hr⟩
  · rw [e, if_pos rfl]
    refine p2_if2 (fun _ => p2_some rfl) (fun a => p2_e2 (m_here _ _ _ hs hσ 0 e0 (by decide)) (p2_if2 (fun b => ?_) (fun _ => p2_some rfl)))
    exfalso
    rw [tI_lt, l_0] at a
    rw [tI_lt] at b
    exact hr ⟨by decide, by decide, by omega, by omega⟩
  · rw [e, if_neg (by decide)]
    obtain ⟨-, -, h3, h4⟩ := hr
    refine p2_if2 (fun a => ?_) (fun a => p2_e2 (m_here _ _ _ hs hσ 0 e0 (by decide)) (p2_if2 (fun b => p2_v2 ?_) (fun b => ?_)))
    · exfalso
      rw [tI_lt, l_0] at a
      omega
    · have ix : x1.toNatClampNeg = x1.toInt.toNat := tI_nat x1
      have i0 : (0 + x1).toNatClampNeg = x1.toInt.toNat := by rw [Int32.zero_add]; exact tI_nat x1
      have i40 : (40 + x1).toNatClampNeg = 40 + x1.toInt.toNat := by
        have : (40 + x1).toInt = 40 + x1.toInt := by ((try simp only [tI_lt, tI_le, tI_eq, tI_add, tI_sub, tI_mul, tI_nat, Int32.reduceToInt, Int.reduceToNat, fe_0, fe_1, fe_2, fe_3, fe_4, fe_5]) <;> (try simp (disch := omega) only [tI_bm]) <;> omega)
        rw [tI_nat, this]; omega
      have i116 : (116 * c_side + x1).toNatClampNeg = 116 * σ + x1.toInt.toNat := by
        have : (116 * c_side + x1).toInt = 116 * σ + x1.toInt := by ((try simp only [tI_lt, tI_le, tI_eq, tI_add, tI_sub, tI_mul, tI_nat, Int32.reduceToInt, Int.reduceToNat, fe_0, fe_1, fe_2, fe_3, fe_4, fe_5]) <;> (try simp (disch := omega) only [tI_bm]) <;> omega)
        rw [tI_nat, this]; omega
      have n9 := hN.1 x1.toInt.toNat (by omega)
      refine p2_ifs (fun _ => ?_) (fun _ => p2_ifs (fun _ => ?_) (fun _ => p2_ifs (fun _ => ?_) (fun _ => p2_ifs (fun _ => ?_) (fun _ => p2_ifs (fun _ => ?_) (fun _ => p2_ifs (fun _ => ?_) (fun _ => p2_ifs (fun _ => ?_) (fun _ => p2_some rfl)))))))
      · refine p2_e1 (x_isPicked x1 c_state_picked x1.toInt.toNat (by omega) (by omega)) (p2_b2 (fun _ => ?_))
        rw [i0]
        have q := s1 x1.toInt.toNat (by omega)
        unfold mB at q
        rw [q.2]
        rcases q.1 with z | z
        · rw [z, if_pos (by decide)]; exact p2_some rfl
        · rw [z, if_neg (by decide)]; exact p2_some rfl
      · refine p2_b1 (fun _ => p2_b2 (fun _ => p2_some ?_))
        rw [ix, i40]
        exact s5 _ (by omega)
      · refine p2_eqA (P := fun r => AN True (ENG (LVd 0 (nuM σ c_netOf) (JLT S σ c_one c_two c_kindBits c_stuck c_dusty c_state) (DLS S)) (LVd 1 (nuM σ c_netOf) (JLT S σ c_one c_two c_kindBits c_stuck c_dusty c_state) (rvL (DLS S))) (2 + 20 * x1.toInt.toNat) (2 + 20 * x1.toInt.toNat + 1)) r.1) (Q := fun r => AN True (ENG (LVd 0 (nuM σ c_netOf) (JLT S σ c_one c_two c_kindBits c_stuck c_dusty c_state) (DLS S)) (LVd 1 (nuM σ c_netOf) (JLT S σ c_one c_two c_kindBits c_stuck c_dusty c_state) (rvL (DLS S))) (2 + 20 * x1.toInt.toNat) (2 + 20 * x1.toInt.toNat + 1)) r.1) ?_ ?_ (fun a b h k => AN_eq h k)
        · refine pc_bind (x_now c_machine_netlist_nets c_machine_netlist_parts c_machine_netlist_contacts c_machine_netlist_makes c_machine_netlist_period c_machine_netlist_onTime c_machine_netlist_netOf c_machine_wear_stuckAt c_machine_wear_dusty c_machine_ways_nets c_machine_ways_links c_machine_ways_firstLink c_machine_ways_nextLink c_machine_ways_leadsTo c_machine_ways_lets c_machine_ways_powers c_machine_ways_reached c_state_keys c_state_time c_state_positions c_machine_netlist_pickTime c_machine_netlist_dropTime c_side c_many c_one c_two c_kinds c_kindBits c_netOf c_stuck c_dusty c_state hA hI hIM hNX hNM hW hSR) (fun r2 q2 => ?_)
          obtain ⟨N, t1, t2, t3, t4⟩ := q2
          have hx9 := exS_coil (S := S) (r := x1.toInt.toNat) (by omega)
          refine pc_bind (x_isFed (x1 := 0) (x2 := x1) (c_netlist_netOf := c_machine_netlist_netOf) (c_ways_nets := r2.1) (c_ways_powers := r2.2.2.2.2.2.2.1) 0 x1.toInt.toNat (2 + 20 * x1.toInt.toNat) (by decide) e0 (by omega) (by omega) ⟨?_, ?_⟩ hx9.1 hx9.2 t1 t2 t3 t4) (fun r3 q3 => ?_)
          · unfold cEnd
            rw [if_pos rfl, show ce 0 = 0 from rfl]
            omega
          · unfold cEnd
            rw [if_pos rfl, show ce 0 = 0 from rfl]
            omega
          · rcases q3 with ⟨z, q3⟩ | ⟨z, q3⟩
            · rw [z, if_neg (by decide)]
              exact pc_some (.inr ⟨trivial, .inl ⟨rfl, q3⟩⟩)
            · rw [z, if_pos rfl]
              exact pc_some (.inr ⟨trivial, .inr ⟨rfl, q3⟩⟩)
        · refine pc_bind (m_now c_side c_many c_one c_two c_kinds c_kindBits c_netOf c_state c_stuck c_dusty c_joined c_live c_ground hI hIM) (fun r8 q8 => ?_)
          refine pc_bind (m_isOn _ _ _ _ _ _ _ hs hσ hO q8.1 (2 + 20 * x1.toInt.toNat) (2 + 20 * x1.toInt.toNat + 1) (by ((try simp only [tI_lt, tI_le, tI_eq, tI_add, tI_sub, tI_mul, tI_nat, Int32.reduceToInt, Int.reduceToNat, fe_0, fe_1, fe_2, fe_3, fe_4, fe_5]) <;> (try simp (disch := omega) only [tI_bm]) <;> omega)) (by ((try simp only [tI_lt, tI_le, tI_eq, tI_add, tI_sub, tI_mul, tI_nat, Int32.reduceToInt, Int.reduceToNat, fe_0, fe_1, fe_2, fe_3, fe_4, fe_5]) <;> (try simp (disch := omega) only [tI_bm]) <;> omega)) (by omega) (by omega) q8.2.1 q8.2.2) (fun r5 q5 => ?_)
          rcases q5 with ⟨z, q5⟩ | ⟨z, q5⟩
          · rw [z, if_neg (by decide)]
            exact pc_some (.inr ⟨trivial, .inl ⟨rfl, q5⟩⟩)
          · rw [z, if_pos rfl]
            exact pc_some (.inr ⟨trivial, .inr ⟨rfl, q5⟩⟩)
      · refine p2_b1 (fun _ => p2_b2 (fun _ => p2_some ?_))
        rw [ix, i116]
        exact n9.1
      · refine p2_b1 (fun _ => p2_b2 (fun _ => p2_some ?_))
        rw [ix, i116]
        exact n9.2.1
      · refine p2_b1 (fun _ => p2_b2 (fun _ => p2_some ?_))
        rw [ix, i116]
        exact Int32.toInt_inj.mp (by rw [n9.2.2.2.1, n9.2.2.2.2.1])
      · have bb := p_told c_machine_netlist_parts c_machine_netlist_contacts c_machine_netlist_told c_side x1 c_many c_one c_two c_kinds c_kindBits c_netOf c_isTold c_state c_stuck c_dusty c_joined c_live c_ground hs hσ hNS x1.toInt.toNat (by omega) (by omega) (fun j hj => told_same hI hA hNX hNM x1.toInt.toNat (by omega) j hj) FU FU 0 x1 0 0 0 0 rfl e0 rfl rfl (by decide)
        unfold f_X3_toldEnds
        intro a b ea eb
        cases ho : (f_X3_toldEnds_4 c_machine_netlist_parts c_machine_netlist_contacts c_machine_netlist_told FU x1 0 0) with
        | none => rw [ho] at ea; cases ea
        | some v =>
          rw [ho] at ea
          have q := bb v b ho eb
          have ea' : some (v, c_machine_ways_nets, c_machine_ways_links, c_machine_ways_firstLink, c_machine_ways_nextLink, c_machine_ways_leadsTo, c_machine_ways_lets, c_machine_ways_powers, c_machine_ways_reached) = some a := ea
          injection ea' with ea'
          rw [← ea']
          exact q
    · exfalso
      rw [tI_lt] at b
      omega
