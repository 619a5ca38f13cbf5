/-! answers: what is settled now, on both sides -/
set_option maxHeartbeats 400000 in
theorem x_now (c_machine_netlist_nets : Int32) (c_machine_netlist_parts : Nat → Int32) (c_machine_netlist_contacts : Nat → Int32) (c_machine_netlist_makes : Nat → Int32) (c_machine_netlist_period : Nat → Int32) (c_machine_netlist_onTime : Nat → Int32) (c_machine_netlist_netOf : Nat → Int32) (c_machine_wear_stuckAt : Nat → Int32) (c_machine_wear_dusty : Nat → Int32) (c_machine_ways_nets : Int32) (c_machine_ways_links : Int32) (c_machine_ways_firstLink : Nat → Int32) (c_machine_ways_nextLink : Nat → Int32) (c_machine_ways_leadsTo : Nat → Int32) (c_machine_ways_lets : Nat → Int32) (c_machine_ways_powers : Nat → Int32) (c_machine_ways_reached : Nat → Int32) (c_state_keys : Int32) (c_state_time : Int32) (c_state_positions : Nat → Int32) (c_machine_netlist_pickTime c_machine_netlist_dropTime : Nat → Int32) (c_side : Int32) (c_many c_one c_two c_kinds c_kindBits c_netOf c_stuck c_dusty c_state : Nat → Int32) {S : List StT} {σ : Nat} {toldNets : Int32} {names : Nat → Nat → Int64} {told nameSize nm isTold : Nat → Int32} (hA : allPin S (pnsOf S)) (hI : IX S toldNets c_machine_netlist_parts names c_machine_netlist_pickTime c_machine_netlist_dropTime c_machine_netlist_contacts c_machine_netlist_makes c_machine_netlist_period c_machine_netlist_onTime) (hIM : IM S σ c_side c_many nameSize c_one c_two c_kinds c_kindBits nm c_netOf) (hNX : NETX S toldNets c_machine_netlist_nets told c_machine_netlist_netOf) (hNM : NETM σ S c_netOf isTold) (hW : WR c_machine_wear_stuckAt c_machine_wear_dusty c_stuck c_dusty) {c_state_picked : Int64} {c_state_counts : Nat → Int32} (hSR : SR (nkS S) c_state_picked c_state_keys c_state_time c_state_counts c_state_positions c_state) : Pc (f_X2_settle c_machine_netlist_nets c_machine_netlist_parts c_machine_netlist_contacts c_machine_netlist_makes c_machine_netlist_period c_machine_netlist_onTime c_machine_netlist_netOf c_machine_wear_stuckAt c_machine_wear_dusty c_machine_ways_nets c_machine_ways_links c_machine_ways_firstLink c_machine_ways_nextLink c_machine_ways_leadsTo c_machine_ways_lets c_machine_ways_powers c_machine_ways_reached c_state_keys c_state_time c_state_positions) (fun r => SET2 S (nuM σ c_netOf) c_machine_netlist_netOf (JLT S σ c_one c_two c_kindBits c_stuck c_dusty c_state) r.1 r.2.2.2.2.2.2.1) := by
  have hN := IXM_NLR hI hIM
  obtain ⟨-, -, m0, m1, -⟩ := GS_nk hI.1
  have jl := JL_eq hN m0 m1 hSR hW c_state_time c_state hSR.2.2.2.1 (fun _ _ => rfl)
  exact x_settled S _ _ _ _ _ _ _ _ _ _ _ _ _ _ _ _ _ _ _ _ hA hI.1 hNX hNM jl.symm
set_option maxHeartbeats 400000 in
theorem m_now (c_side : Int32) (c_many : Nat → Int32) (c_one : Nat → Int32) (c_two : Nat → Int32) (c_kinds : Nat → Int32) (c_kindBits : Nat → Int32) (c_netOf : Nat → Int32) (c_state : Nat → Int32) (c_stuck : Nat → Int32) (c_dusty : Nat → Int32) (c_joined : Nat → Int32) (c_live : Nat → Int32) (c_ground : Nat → Int32) {S : List StT} {σ : Nat} {toldNets : Int32} {parts pick drop cont makes per on_ : Nat → Int32} {names : Nat → Nat → Int64} {nameSize nm : Nat → Int32} (hI : IX S toldNets parts names pick drop cont makes per on_) (hIM : IM S σ c_side c_many nameSize c_one c_two c_kinds c_kindBits nm c_netOf) : Pc (f_X11_look c_side c_many c_one c_two c_kinds c_kindBits c_netOf c_state c_stuck c_dusty c_joined c_live c_ground) (fun r => JI r.1 ∧ (∀ e, e < 954 → (¬ r.2.1 (rt (jn r.1) (nuM σ c_netOf e)) = 0 ↔ (LVd 0 (nuM σ c_netOf) (JLT S σ c_one c_two c_kindBits c_stuck c_dusty c_state) (DLS S)) e)) ∧ ∀ e, e < 954 → (¬ r.2.2 (rt (jn r.1) (nuM σ c_netOf e)) = 0 ↔ (LVd 1 (nuM σ c_netOf) (JLT S σ c_one c_two c_kindBits c_stuck c_dusty c_state) (rvL (DLS S))) e)) := by
  have hN := IXM_NLR hI hIM
  obtain ⟨k1, -⟩ := GS_nk hI.1
  exact m_looked S σ _ _ _ _ _ _ _ _ _ _ _ _ _ hIM.1 (fun s hs => hIM.2.2.1 s hs) (fun r hr => ⟨(hN.1 r hr).2.2.2.2.1, k1 r⟩) rfl
/-! an answer that is yes, no, or none -/
def AN (V E : Prop) (v : Int32) : Prop := (¬ V ∧ v = -1) ∨ (V ∧ ((v = 1 ∧ E) ∨ (v = 0 ∧ ¬ E)))
set_option maxHeartbeats 400000 in
theorem AN_eq {V E : Prop} {v w : Int32} (h : AN V E v) (k : AN V E w) : v = w := by
  rcases h with ⟨a, b⟩ | ⟨a, ⟨b, c⟩ | ⟨b, c⟩⟩ <;> rcases k with ⟨d, e⟩ | ⟨d, ⟨e, f⟩ | ⟨e, f⟩⟩
  · rw [b, e]
  · exact absurd d a
  · exact absurd d a
  · exact absurd a d
  · rw [b, e]
  · exact absurd c f
  · exact absurd a d
  · exact absurd f c
  · rw [b, e]
set_option maxHeartbeats 400000 in
theorem p2_eqA {α β : Type} {o1 : Option α} {o2 : Option β} {P : α → Prop} {Q : β → Prop} {R : α → β → Prop} (h : Pc o1 P) (k : Pc o2 Q) (e : ∀ a b, P a → Q b → R a b) : P2 o1 o2 R := fun a b e1 e2 => e a b (h a e1) (k b e2)
set_option maxHeartbeats 400000 in
theorem p2_ifs {α β : Type} {c : Prop} {d1 d2 : Decidable c} {a b : Option α} {a2 b2 : Option β} {R : α → β → Prop} (h1 : c → P2 a a2 R) (h2 : ¬ c → P2 b b2 R) : P2 (@ite _ c d1 a b) (@ite _ c d2 a2 b2) R := p2_if1 (fun q => p2_if2 (fun _ => h1 q) (fun w => absurd q w)) (fun q => p2_if2 (fun w => absurd w q) (fun _ => h2 q))
/-! lamp -/
set_option maxHeartbeats 400000 in
theorem x_lamp (x1 : Int32) (c_machine_netlist_nets : Int32) (c_machine_netlist_parts : Nat → Int32) (c_machine_netlist_contacts : Nat → Int32) (c_machine_netlist_makes : Nat → Int32) (c_machine_netlist_period : Nat → Int32) (c_machine_netlist_onTime : Nat → Int32) (c_machine_netlist_netOf : Nat → Int32) (c_machine_wear_stuckAt : Nat → Int32) (c_machine_wear_dusty : Nat → Int32) (c_machine_ways_nets : Int32) (c_machine_ways_links : Int32) (c_machine_ways_firstLink : Nat → Int32) (c_machine_ways_nextLink : Nat → Int32) (c_machine_ways_leadsTo : Nat → Int32) (c_machine_ways_lets : Nat → Int32) (c_machine_ways_powers : Nat → Int32) (c_machine_ways_reached : Nat → Int32) (c_state_keys : Int32) (c_state_time : Int32) (c_state_positions : Nat → Int32) (c_machine_netlist_pickTime c_machine_netlist_dropTime : Nat → Int32) (c_side : Int32) (c_many c_one c_two c_kinds c_kindBits c_netOf c_stuck c_dusty c_state : Nat → Int32) {S : List StT} {σ : Nat} {toldNets : Int32} {names : Nat → Nat → Int64} {told nameSize nm isTold : Nat → Int32} (hA : allPin S (pnsOf S)) (hI : IX S toldNets c_machine_netlist_parts names c_machine_netlist_pickTime c_machine_netlist_dropTime c_machine_netlist_contacts c_machine_netlist_makes c_machine_netlist_period c_machine_netlist_onTime) (hIM : IM S σ c_side c_many nameSize c_one c_two c_kinds c_kindBits nm c_netOf) (hNX : NETX S toldNets c_machine_netlist_nets told c_machine_netlist_netOf) (hNM : NETM σ S c_netOf isTold) (hW : WR c_machine_wear_stuckAt c_machine_wear_dusty c_stuck c_dusty) {c_state_picked : Int64} {c_state_counts : Nat → Int32} (hSR : SR (nkS S) c_state_picked c_state_keys c_state_time c_state_counts c_state_positions c_state) : Pc (f_X10_lamp x1 c_machine_netlist_nets c_machine_netlist_parts c_machine_netlist_contacts c_machine_netlist_makes c_machine_netlist_period c_machine_netlist_onTime c_machine_netlist_netOf c_machine_wear_stuckAt c_machine_wear_dusty c_machine_ways_nets c_machine_ways_links c_machine_ways_firstLink c_machine_ways_nextLink c_machine_ways_leadsTo c_machine_ways_lets c_machine_ways_powers c_machine_ways_reached c_state_keys c_state_time c_state_positions) (fun r => AN (0 ≤ x1.toInt ∧ x1.toInt < cnt 2 S) (ENG (LVd 0 (nuM σ c_netOf) (JLT S σ c_one c_two c_kindBits c_stuck c_dusty c_state) (DLS S)) (LVd 1 (nuM σ c_netOf) (JLT S σ c_one c_two c_kindBits c_stuck c_dusty c_state) (rvL (DLS S))) (850 + 2 * x1.toInt.toNat) (850 + 2 * x1.toInt.toNat + 1)) r.1) := by
  unfold f_X10_lamp
  obtain ⟨-, -, m0, m1, m2, -⟩ := GS_nk hI.1
  have hp := hI.1.2.2.2.1 2 (by decide)
  have e2 : (2 : Int32).toInt = 2 := by decide
  refine pc_bind (pc_ok (so_X3_has _ _ _)) (fun r1 hr => ?_)
  unfold hasP at hr
  rw [e2, show (2 : Int).toNat = 2 from rfl] at hr
  rcases hr with ⟨e, hr⟩ | ⟨e, hr⟩
  · rw [e, if_pos rfl]
    exact pc_some (.inl ⟨fun q => hr ⟨by decide, by decide, q.1, by omega⟩, rfl⟩)
  · rw [e, if_neg (by decide)]
    obtain ⟨-, -, h3, h4⟩ := hr
    refine pc_bind (x_now c_machine_netlist_nets c_machine_netlist_parts c_machine_netlist_contacts c_machine_netlist_makes c_machine_netlist_period c_machine_netlist_onTime c_machine_netlist_netOf c_machine_wear_stuckAt c_machine_wear_dusty c_machine_ways_nets c_machine_ways_links c_machine_ways_firstLink c_machine_ways_nextLink c_machine_ways_leadsTo c_machine_ways_lets c_machine_ways_powers c_machine_ways_reached c_state_keys c_state_time c_state_positions c_machine_netlist_pickTime c_machine_netlist_dropTime c_side c_many c_one c_two c_kinds c_kindBits c_netOf c_stuck c_dusty c_state hA hI hIM hNX hNM hW hSR) (fun r2 q2 => ?_)
    obtain ⟨N, n1, n2, n3, n4⟩ := q2
    refine pc_bind (x_isFed (x1 := 2) (x2 := x1) (c_netlist_netOf := c_machine_netlist_netOf) (c_ways_nets := r2.1) (c_ways_powers := r2.2.2.2.2.2.2.1) 2 x1.toInt.toNat (850 + 2 * x1.toInt.toNat) (by decide) e2 (by omega) (by omega) ⟨?_, ?_⟩ (.inr (.inr (.inr (.inl ⟨x1.toInt.toNat, 0, by omega, by omega, by omega⟩)))) (.inr (.inr (.inr (.inl ⟨x1.toInt.toNat, 1, by omega, by omega, by omega⟩)))) n1 n2 n3 n4) (fun r3 q3 => ?_)
    · unfold cEnd
      rw [if_neg (by decide), show ce 2 = 848 from rfl]
      omega
    · unfold cEnd
      rw [if_neg (by decide), show ce 2 = 848 from rfl]
      omega
    · rcases q3 with ⟨z, q3⟩ | ⟨z, q3⟩
      · rw [z, if_neg (by decide)]
        exact pc_some (.inr ⟨⟨h3, by omega⟩, .inl ⟨rfl, q3⟩⟩)
      · rw [z, if_pos rfl]
        exact pc_some (.inr ⟨⟨h3, by omega⟩, .inr ⟨rfl, q3⟩⟩)
set_option maxHeartbeats 400000 in
theorem m_lamp (x1 : Int32) (c_side : Int32) (c_many : Nat → Int32) (c_one : Nat → Int32) (c_two : Nat → Int32) (c_kinds : Nat → Int32) (c_kindBits : Nat → Int32) (c_netOf : Nat → Int32) (c_state : Nat → Int32) (c_stuck : Nat → Int32) (c_dusty : Nat → Int32) (c_joined : Nat → Int32) (c_live : Nat → Int32) (c_ground : Nat → Int32) {σ n : Nat} {LV GD : Nat → Prop} (hM : MI σ c_side c_many c_one c_kinds c_netOf) (hn : (c_many (5 * σ + 2)).toInt = n) (hlook : Pc (f_X11_look c_side c_many c_one c_two c_kinds c_kindBits c_netOf c_state c_stuck c_dusty c_joined c_live c_ground) (fun r => JI r.1 ∧ (∀ e, e < 954 → (¬ r.2.1 (rt (jn r.1) (nuM σ c_netOf e)) = 0 ↔ LV e)) ∧ ∀ e, e < 954 → (¬ r.2.2 (rt (jn r.1) (nuM σ c_netOf e)) = 0 ↔ GD e))) : Pc (f_X11_lamp x1 c_side c_many c_one c_two c_kinds c_kindBits c_netOf c_state c_stuck c_dusty c_joined c_live c_ground) (fun r => AN (0 ≤ x1.toInt ∧ x1.toInt < n) (ENG LV GD (850 + 2 * x1.toInt.toNat) (850 + 2 * x1.toInt.toNat + 1)) r.1) := by
  unfold f_X11_lamp
  obtain ⟨hs, hσ, m0, m1, m2, m3, m4, hK, hO1, hO⟩ := hM
  have e2 : (2 : Int32).toInt = 2 := by decide
  refine pc_if (fun a => pc_some (.inl ⟨fun q => ?_, rfl⟩)) (fun a => pc_eq (m_here _ _ _ hs hσ 2 e2 (by decide)) (pc_if (fun b => ?_) (fun b => pc_some (.inl ⟨fun q => ?_, rfl⟩))))
  · rw [tI_lt, l_0] at a
    omega
  · rw [tI_lt, l_0] at a
    rw [tI_lt] at b
    refine pc_bind hlook (fun r2 q2 => pc_eq (s_endOf2 _ _) (pc_eq (s_endOf2 _ _) ?_))
    refine pc_bind (m_isOn _ _ _ _ _ _ _ hs hσ hO q2.1 (850 + 2 * x1.toInt.toNat) (850 + 2 * x1.toInt.toNat + 1) (by ((try simp only [tI_lt, tI_le, tI_eq, tI_add, tI_sub, tI_mul, tI_nat, Int32.reduceToInt, Int.reduceToNat, fe_0, fe_1, fe_2, fe_3, fe_4, fe_5]) <;> (try simp (disch := omega) only [tI_bm]) <;> omega)) (by ((try simp only [tI_lt, tI_le, tI_eq, tI_add, tI_sub, tI_mul, tI_nat, Int32.reduceToInt, Int.reduceToNat, fe_0, fe_1, fe_2, fe_3, fe_4, fe_5]) <;> (try simp (disch := omega) only [tI_bm]) <;> omega)) (by omega) (by omega) q2.2.1 q2.2.2) (fun r5 q5 => ?_)
    rcases q5 with ⟨z, q5⟩ | ⟨z, q5⟩
    · rw [z, if_neg (by decide)]
      exact pc_some (.inr ⟨⟨by omega, by omega⟩, .inl ⟨rfl, q5⟩⟩)
    · rw [z, if_pos rfl]
      exact pc_some (.inr ⟨⟨by omega, by omega⟩, .inr ⟨rfl, q5⟩⟩)
  · rw [tI_lt] at b
    omega
/-! contact -/
set_option maxHeartbeats 400000 in
theorem p_contact (x1 : Int32) (x2 : Int32) (c_machine_netlist_parts : Nat → Int32) (c_machine_netlist_contacts : Nat → Int32) (c_state_positions : Nat → Int32) (c_side : Int32) (c_many c_kinds c_state : Nat → Int32) {σ : Nat} {one netOf : Nat → Int32} {nk : Nat → Nat} {picked : Int64} {keys time : Int32} {counts : Nat → Int32} (hM : MI σ c_side c_many one c_kinds netOf) (hN : NS c_machine_netlist_parts c_machine_netlist_contacts) (hc : ∀ a b, hasC a b c_machine_netlist_parts c_machine_netlist_contacts ↔ mC σ a b c_many c_kinds) (hk : ∀ r : Nat, (r : Int) < (c_machine_netlist_parts 0).toInt → (c_machine_netlist_contacts r).toInt = nk r) (h : SR nk picked keys time counts c_state_positions c_state) : P2 (f_X10_contact x1 x2 c_machine_netlist_parts c_machine_netlist_contacts c_state_positions) (f_X11_contact x1 x2 c_side c_many c_kinds c_state) (fun rx rm => rx = rm) := by
  unfold f_X10_contact f_X11_contact
  refine p2_l (pc_ok (so_X3_hasContact _ _ _ _ hN.1.2)) (fun r1 h1 => p2_r (pc_ok (s_X11_isContact σ _ _ _ _ _ one netOf hM)) (fun r2 h2 => ?_))
  rcases h1 with ⟨a1, a2⟩ | ⟨a1, a2⟩ <;> rcases h2 with ⟨b1, b2⟩ | ⟨b1, b2⟩
  · rw [a1, b1, if_pos rfl, if_pos rfl]; exact p2_some rfl
  · exact absurd ((hc x1 x2).mpr b2) a2
  · exact absurd ((hc x1 x2).mp a2) b2
  · rw [a1, b1, if_neg (show ¬ (1 : Int32) = 0 from by decide), if_neg (show ¬ (1 : Int32) = 0 from by decide)]
    obtain ⟨c1, c2, c3, c4⟩ := a2
    have k1 := hN.1.2
    have k2 := (hN.2.2.2.2.2 x1.toInt.toNat (by omega)).2
    have k3 := hk x1.toInt.toNat (by omega)
    refine p2_b1 (fun _ => p2_b2 (fun _ => p2_some ?_))
    have i2 : (80 + 6 * x1 + x2 - 1).toInt = 80 + 6 * x1.toInt + x2.toInt - 1 := by ((try simp only [tI_lt, tI_le, tI_eq, tI_add, tI_sub, tI_mul, tI_nat, Int32.reduceToInt, Int.reduceToNat, fe_0, fe_1, fe_2, fe_3, fe_4, fe_5]) <;> (try simp (disch := omega) only [tI_bm]) <;> omega)
    have e : (80 + 6 * x1 + x2 - 1).toNatClampNeg = 80 + 6 * x1.toInt.toNat + (x2.toInt.toNat - 1) := by rw [tI_nat, i2]; omega
    have q := h.2.2.2.2.2.1 x1.toInt.toNat (x2.toInt.toNat - 1) (by omega) (by omega)
    rw [if_pos (by omega)] at q
    rw [e, q, tI_nat]
