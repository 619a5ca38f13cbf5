/-! quiet on both sides -/
set_option maxHeartbeats 400000 in
theorem SR_rest {nk : Nat → Nat} {p p2 : Int64} {k t k2 t2 : Int32} {c po s c2 po2 s2 : Nat → Int32} (h : SR nk p k t c po s) (h2 : SR nk p2 k2 t2 c2 po2 s2) : (p = p2 ∧ ∀ i, i < 40 → c i = c2 i ∧ po i = po2 i) ↔ ∀ i, i < 320 → s2 i = s i := by
  obtain ⟨a1, a2, a3, a4, a5, a6, a7⟩ := h
  obtain ⟨b1, b2, b3, b4, b5, b6, b7⟩ := h2
  constructor
  · rintro ⟨q1, q2⟩ i hi
    by_cases z : i < 40
    · have x := a1 i z
      have y := b1 i z
      rw [q1] at x
      have e := x.2.symm.trans y.2
      unfold mB at e
      rcases x.1 with x0 | x0 <;> rcases y.1 with y0 | y0 <;> rw [x0, y0] at e ⊢
      · exact absurd e (by decide)
      · exact absurd e (by decide)
    · by_cases w : i < 80
      · have x := a5 (i - 40) (by omega)
        have y := b5 (i - 40) (by omega)
        rw [show 40 + (i - 40) = i by omega] at x y
        rw [← x, ← y, (q2 (i - 40) (by omega)).1]
      · have x := a6 ((i - 80) / 6) ((i - 80) % 6) (by omega) (Nat.mod_lt _ (by decide))
        have y := b6 ((i - 80) / 6) ((i - 80) % 6) (by omega) (Nat.mod_lt _ (by decide))
        rw [show 80 + 6 * ((i - 80) / 6) + (i - 80) % 6 = i by omega] at x y
        rw [x, y, (q2 ((i - 80) / 6) (by omega)).2]
  · intro q
    refine ⟨btL_ext (fun i _ => ?_), fun i hi => ⟨?_, ?_⟩⟩
    · by_cases z : i < 40
      · rw [(a1 i z).2, (b1 i z).2]
        unfold mB
        rw [q i (by omega)]
      · rw [a2 i (by omega), b2 i (by omega)]
    · rw [a5 i hi, b5 i hi, q _ (by omega)]
    · by_cases z : nk i = 0
      · rw [a7 i hi z, b7 i hi z]
      · have x := a6 i 0 hi (by decide)
        have y := b6 i 0 hi (by decide)
        rw [if_pos (by omega)] at x y
        rw [← x, ← y, q _ (by omega)]
set_option maxHeartbeats 400000 in
theorem x_restsAs_16 (c_picked : Int64) (c_counts : Nat → Int32) (c_positions : Nat → Int32) (c_p1_picked : Int64) (c_p1_counts : Nat → Int32) (c_p1_positions : Nat → Int32) (hp : c_picked = c_p1_picked) : ∀ (n : Nat) (x2 : Int32) (k : Nat), x2.toInt = k → k ≤ 40 → (∀ i, i < k → c_counts i = c_p1_counts i ∧ c_positions i = c_p1_positions i) → Pc (f_X6_restsAs_16 c_picked c_counts c_positions c_p1_picked c_p1_counts c_p1_positions n x2) (fun v => (v = 1 ∧ (c_picked = c_p1_picked ∧ ∀ i, i < 40 → c_counts i = c_p1_counts i ∧ c_positions i = c_p1_positions i)) ∨ (v = 0 ∧ ¬ (c_picked = c_p1_picked ∧ ∀ i, i < 40 → c_counts i = c_p1_counts i ∧ c_positions i = c_p1_positions i)))
  | 0, x2, k, h1, h2, h3 => pc_none
  | n + 1, x2, k, h1, h2, h3 => by
    unfold f_X6_restsAs_16
    have ek : x2.toNatClampNeg = k := by rw [tI_nat]; omega
    refine pc_if (fun a => pc_some (.inl ⟨rfl, hp, fun i hi => h3 i ?_⟩)) (fun a => ?_)
    · rw [tI_le, l_40] at a; omega
    rw [tI_le, l_40] at a
    rw [ek]
    refine pc_bad (fun _ => pc_bad (fun _ => pc_if (fun b => pc_bad (fun _ => pc_bad (fun _ => pc_if (fun d => pc_vlet ?_) (fun d => pc_some (.inr ⟨rfl, fun q => d (q.2 k (by omega)).2⟩))))) (fun b => pc_some (.inr ⟨rfl, fun q => b (q.2 k (by omega)).1⟩))))
    refine x_restsAs_16 c_picked c_counts c_positions c_p1_picked c_p1_counts c_p1_positions hp n _ (k + 1) (by ((try simp only [tI_lt, tI_le, tI_eq, tI_add, tI_sub, tI_mul, tI_nat, Int32.reduceToInt, Int.reduceToNat, fe_0, fe_1, fe_2, fe_3, fe_4, fe_5]) <;> (try simp (disch := omega) only [tI_bm]) <;> omega)) (by omega) (fun i hi => ?_)
    by_cases z : i = k
    · rw [z]; exact ⟨b, d⟩
    · exact h3 i (by omega)
set_option maxHeartbeats 400000 in
theorem x_restsAs (c_picked : Int64) (c_counts : Nat → Int32) (c_positions : Nat → Int32) (c_p1_picked : Int64) (c_p1_counts : Nat → Int32) (c_p1_positions : Nat → Int32) : Pc (f_X6_restsAs c_picked c_counts c_positions c_p1_picked c_p1_counts c_p1_positions) (fun v => (v = 1 ∧ (c_picked = c_p1_picked ∧ ∀ i, i < 40 → c_counts i = c_p1_counts i ∧ c_positions i = c_p1_positions i)) ∨ (v = 0 ∧ ¬ (c_picked = c_p1_picked ∧ ∀ i, i < 40 → c_counts i = c_p1_counts i ∧ c_positions i = c_p1_positions i))) := by
  unfold f_X6_restsAs
  exact pc_if (fun a => x_restsAs_16 c_picked c_counts c_positions c_p1_picked c_p1_counts c_p1_positions ((lgc _ _).mp a) FU 0 0 (by decide) (by decide) (fun i hi => absurd hi (Nat.not_lt_zero _))) (fun a => pc_some (.inr ⟨rfl, fun q => a ((lgc _ _).mpr q.1)⟩))
set_option maxHeartbeats 400000 in
theorem p_quiet_21 (k2 : Int32 → Int32 → Int32 → (Nat → Int32) → (Nat → Int32) → (Nat → Int32) → (Nat → Int32) → (Nat → Int32) → Option (Int32 × Int32 × Int32 × (Nat → Int32) × (Nat → Int32) × (Nat → Int32) × (Nat → Int32) × (Nat → Int32))) (c_side : Int32) (c_many : Nat → Int32) (c_one : Nat → Int32) (c_two : Nat → Int32) (c_kinds : Nat → Int32) (c_kindBits : Nat → Int32) (c_netOf : Nat → Int32) (c_stuck : Nat → Int32) (c_dusty : Nat → Int32) (c_part : Nat → Int32) {α : Type} {o1 : Option α} {R : α → Int32 × Int32 × Int32 × (Nat → Int32) × (Nat → Int32) × (Nat → Int32) × (Nat → Int32) × (Nat → Int32) → Prop} (y : Int32) (kp lt : Int32) (s0 j0 lv gr pa : Nat → Int32) (b : Nat) (hb : b < 100) (hlt : lt.toInt = b) (hy : (∀ i, i < 320 → s0 i = pa (345 * b + i)) → P2 o1 (some (y, kp, lt, s0, j0, lv, gr, pa)) R) (hn : ¬ (∀ i, i < 320 → s0 i = pa (345 * b + i)) → P2 o1 (k2 (y + 1) kp lt s0 j0 lv gr pa) R) : ∀ (n : Nat) (x1 : Int32) (x2 : Int32) (x3 : Int32) (c_kept : Int32) (c_latest : Int32) (c_state : Nat → Int32) (c_joined : Nat → Int32) (c_live : Nat → Int32) (c_ground : Nat → Int32) (c_past : Nat → Int32) (k : Nat), x1 = y → x3.toInt = k → k ≤ 320 → c_kept = kp → c_latest = lt → c_state = s0 → c_joined = j0 → c_live = lv → c_ground = gr → c_past = pa → ((¬ x2 = 0 ∧ ∀ i, i < k → s0 i = pa (345 * b + i)) ∨ (x2 = 0 ∧ ¬ ∀ i, i < 320 → s0 i = pa (345 * b + i))) → P2 o1 (f_X11_quiet_21 k2 c_side c_many c_one c_two c_kinds c_kindBits c_netOf c_stuck c_dusty c_part n x1 x2 x3 c_kept c_latest c_state c_joined c_live c_ground c_past) R
  | 0, x1, x2, x3, c_kept, c_latest, c_state, c_joined, c_live, c_ground, c_past, k, e0, h1, h2, e1, e2, e3, e4, e5, e6, e7, hI => p2_n2
  | n + 1, x1, x2, x3, c_kept, c_latest, c_state, c_joined, c_live, c_ground, c_past, k, e0, h1, h2, e1, e2, e3, e4, e5, e6, e7, hI => by
    unfold f_X11_quiet_21 f_X11_quiet_68 f_X11_quiet_61
    subst e0 e1 e2 e3 e4 e5 e6 e7
    have fin : x2 = 0 → P2 o1 (k2 (x1 + 1) c_kept c_latest c_state c_joined c_live c_ground c_past) R := fun z => by
      rcases hI with ⟨q, -⟩ | ⟨-, q⟩
      · exact absurd z q
      · exact hn q
    refine p2_if2 (fun a => p2_if2 (fun z => p2_v2 (fin z)) (fun z => ?_)) (fun a => p2_if2 (fun z => p2_if2 (fun z => p2_v2 (fin z)) (fun w => absurd z w)) (fun z => ?_))
    · rw [tI_le, l_320] at a
      rcases hI with ⟨-, q⟩ | ⟨q, -⟩
      · exact hy (fun i hi => q i (by omega))
      · exact absurd q z
    · rw [tI_le, l_320] at a
      have ek : x3.toNatClampNeg = k := by rw [tI_nat]; omega
      have eb : (345 * c_latest + x3).toNatClampNeg = 345 * b + k := by
        have : (345 * c_latest + x3).toInt = 345 * b + k := by ((try simp only [tI_lt, tI_le, tI_eq, tI_add, tI_sub, tI_mul, tI_nat, Int32.reduceToInt, Int.reduceToNat, fe_0, fe_1, fe_2, fe_3, fe_4, fe_5]) <;> (try simp (disch := omega) only [tI_bm]) <;> omega)
        rw [tI_nat, this]; omega
      have e3 : (x3 + 1).toInt = ((k + 1 : Nat) : Int) := by ((try simp only [tI_lt, tI_le, tI_eq, tI_add, tI_sub, tI_mul, tI_nat, Int32.reduceToInt, Int.reduceToNat, fe_0, fe_1, fe_2, fe_3, fe_4, fe_5]) <;> (try simp (disch := omega) only [tI_bm]) <;> omega)
      have hq : ∀ i, i < k → c_state i = c_past (345 * b + i) := by
        rcases hI with ⟨-, q⟩ | ⟨q, -⟩
        · exact q
        · exact absurd q z
      refine p2_b2 (fun _ => p2_b2 (fun _ => ?_))
      rw [ek, eb]
      refine p2_if2 (fun w => p2_v2 ?_) (fun w => p2_v2 ?_)
      · refine p_quiet_21 k2 c_side c_many c_one c_two c_kinds c_kindBits c_netOf c_stuck c_dusty c_part x1 c_kept c_latest c_state c_joined c_live c_ground c_past b hb hlt hy hn n _ _ _ _ _ _ _ _ _ _ (k + 1) rfl e3 (by omega) rfl rfl rfl rfl rfl rfl rfl (.inl ⟨by decide, fun i hi => ?_⟩)
        by_cases v : i = k
        · rw [v]; exact w
        · exact hq i (by omega)
      · exact p_quiet_21 k2 c_side c_many c_one c_two c_kinds c_kindBits c_netOf c_stuck c_dusty c_part x1 c_kept c_latest c_state c_joined c_live c_ground c_past b hb hlt hy hn n _ _ _ _ _ _ _ _ _ _ (k + 1) rfl e3 (by omega) rfl rfl rfl rfl rfl rfl rfl (.inr ⟨rfl, fun q => w (q k (by omega))⟩)
set_option maxHeartbeats 400000 in
theorem p_quiet_2 (c_machine_netlist_nets : Int32) (c_machine_netlist_parts : Nat → Int32) (c_machine_netlist_pickTime : Nat → Int32) (c_machine_netlist_dropTime : Nat → Int32) (c_machine_netlist_contacts : Nat → Int32) (c_machine_netlist_makes : Nat → Int32) (c_machine_netlist_period : Nat → Int32) (c_machine_netlist_onTime : Nat → Int32) (c_machine_netlist_netOf : Nat → Int32) (c_machine_wear_stuckAt : Nat → Int32) (c_machine_wear_dusty : Nat → Int32) (c_state_keys : Int32) (c_side : Int32) (c_many c_one c_two c_kinds c_kindBits c_netOf c_stuck c_dusty c_part : Nat → Int32) {S : List StT} {σ : Nat} {toldNets : Int32} {names : Nat → Nat → Int64} {told nameSize nm isTold : Nat → Int32} (hA : allPin S (pnsOf S)) (hI : IX S toldNets c_machine_netlist_parts names c_machine_netlist_pickTime c_machine_netlist_dropTime c_machine_netlist_contacts c_machine_netlist_makes c_machine_netlist_period c_machine_netlist_onTime) (hIM : IM S σ c_side c_many nameSize c_one c_two c_kinds c_kindBits nm c_netOf) (hNX : NETX S toldNets c_machine_netlist_nets told c_machine_netlist_netOf) (hNM : NETM σ S c_netOf isTold) (hW : WR c_machine_wear_stuckAt c_machine_wear_dusty c_stuck c_dusty) (hP : ∀ r, r < 40 → c_part r = 0) : ∀ (n : Nat) (x1 : Int32) (c_machine_ways_nets : Int32) (c_machine_ways_links : Int32) (c_machine_ways_firstLink : Nat → Int32) (c_machine_ways_nextLink : Nat → Int32) (c_machine_ways_leadsTo : Nat → Int32) (c_machine_ways_lets : Nat → Int32) (c_machine_ways_powers : Nat → Int32) (c_machine_ways_reached : Nat → Int32) (c_state_picked : Int64) (c_state_time : Int32) (c_state_counts : Nat → Int32) (c_state_positions : Nat → Int32) (c_history_next : Int32) (c_history_size : Int32) (pk : Nat → Int64) (ky : Nat → Int32) (tm : Nat → Int32) (cn : Nat → Nat → Int32) (po : Nat → Nat → Int32) (m : Nat) (c_kept c_latest : Int32) (c_state c_joined c_live c_ground c_past : Nat → Int32), DY S c_machine_netlist_pickTime c_machine_netlist_dropTime c_state_picked c_state_keys c_state_time c_state_counts c_state_positions c_history_next c_history_size pk ky tm cn po c_state c_kept c_latest c_past → HR c_history_next c_history_size → KR c_kept c_latest → P2 (f_X10_quiet_2 c_machine_netlist_nets c_machine_netlist_parts c_machine_netlist_pickTime c_machine_netlist_dropTime c_machine_netlist_contacts c_machine_netlist_makes c_machine_netlist_period c_machine_netlist_onTime c_machine_netlist_netOf c_machine_wear_stuckAt c_machine_wear_dusty c_state_keys n x1 c_machine_ways_nets c_machine_ways_links c_machine_ways_firstLink c_machine_ways_nextLink c_machine_ways_leadsTo c_machine_ways_lets c_machine_ways_powers c_machine_ways_reached c_state_picked c_state_time c_state_counts c_state_positions c_history_next c_history_size pk ky tm cn po) (f_X11_quiet_2 c_side c_many c_one c_two c_kinds c_kindBits c_netOf c_stuck c_dusty c_part m x1 c_kept c_latest c_state c_joined c_live c_ground c_past) (fun rx rm => rx.1 = rm.1 ∧ DY S c_machine_netlist_pickTime c_machine_netlist_dropTime rx.2.2.2.2.2.2.2.2.2.1 c_state_keys rx.2.2.2.2.2.2.2.2.2.2.1 rx.2.2.2.2.2.2.2.2.2.2.2.1 rx.2.2.2.2.2.2.2.2.2.2.2.2.1 rx.2.2.2.2.2.2.2.2.2.2.2.2.2.1 rx.2.2.2.2.2.2.2.2.2.2.2.2.2.2.1 rx.2.2.2.2.2.2.2.2.2.2.2.2.2.2.2.1 rx.2.2.2.2.2.2.2.2.2.2.2.2.2.2.2.2.1 rx.2.2.2.2.2.2.2.2.2.2.2.2.2.2.2.2.2.1 rx.2.2.2.2.2.2.2.2.2.2.2.2.2.2.2.2.2.2.1 rx.2.2.2.2.2.2.2.2.2.2.2.2.2.2.2.2.2.2.2 rm.2.2.2.1 rm.2.1 rm.2.2.1 rm.2.2.2.2.2.2.2)
  | 0, x1, c_machine_ways_nets, c_machine_ways_links, c_machine_ways_firstLink, c_machine_ways_nextLink, c_machine_ways_leadsTo, c_machine_ways_lets, c_machine_ways_powers, c_machine_ways_reached, c_state_picked, c_state_time, c_state_counts, c_state_positions, c_history_next, c_history_size, pk, ky, tm, cn, po, m, c_kept, c_latest, c_state, c_joined, c_live, c_ground, c_past, hD, hH, hK => p2_n1
  | n + 1, x1, c_machine_ways_nets, c_machine_ways_links, c_machine_ways_firstLink, c_machine_ways_nextLink, c_machine_ways_leadsTo, c_machine_ways_lets, c_machine_ways_powers, c_machine_ways_reached, c_state_picked, c_state_time, c_state_counts, c_state_positions, c_history_next, c_history_size, pk, ky, tm, cn, po, 0, c_kept, c_latest, c_state, c_joined, c_live, c_ground, c_past, hD, hH, hK => p2_n2
  | n + 1, x1, c_machine_ways_nets, c_machine_ways_links, c_machine_ways_firstLink, c_machine_ways_nextLink, c_machine_ways_leadsTo, c_machine_ways_lets, c_machine_ways_powers, c_machine_ways_reached, c_state_picked, c_state_time, c_state_counts, c_state_positions, c_history_next, c_history_size, pk, ky, tm, cn, po, m + 1, c_kept, c_latest, c_state, c_joined, c_live, c_ground, c_past, hD, hH, hK => by
    unfold f_X10_quiet_2 f_X11_quiet_2
    have hN := IXM_NLR hI hIM
    obtain ⟨-, -, m0, -⟩ := GS_nk hI.1
    obtain ⟨E, hE⟩ := E_ex (ENS S (nuM σ c_netOf) (JLT S σ c_one c_two c_kindBits c_stuck c_dusty (tk1 c_state)))
    obtain ⟨h1, h2, h3⟩ := hD
    refine p2_if1 (fun a => p2_if2 (fun b => p2_some ⟨rfl, h1, h2, h3⟩) (fun b => absurd a b)) (fun a => p2_if2 (fun b => absurd b a) (fun b => p2_b1 (fun _ => ?_)))
    refine p2_l (x_run _ _ _ _ _ _ _ _ _ _ _ _ _ _ _ _ _ _ _ _ _ _ _ _ _ _ _ _ _ _ _ c_side c_many c_one c_two c_kinds c_kindBits c_netOf c_stuck c_dusty c_state hA hI hIM hNX hNM hW E (fun r _ => hE r) h1 h2) (fun r q => ?_)
    refine p2_r (m_keep _ _ _ _ hK.2.2) (fun r2 q2 => p2_r (m_run _ _ _ _ _ _ _ _ _ _ _ _ _ _ _ _ _ _ _ _ _ _ _ _ _ hA hI hIM hNX hNM hW E (fun _ => false) (fun _ => false) (fun r _ => hE r) (fun r hr => by rw [hP r (by omega)]; decide) (fun r hr => by rw [hP r (by omega)]; decide) (fun r hr => (h1.1 r hr).1)) (fun r3 q3 => ?_))
    obtain ⟨⟨q1, qX⟩, k1, k2, k3, k4, k5, k6, k7⟩ := q
    obtain ⟨l1, l2, l3⟩ := q2
    obtain ⟨d1, d2⟩ := DY_next hN m0 h1 h2 qX q3
    obtain ⟨g1, g2, g3⟩ := HST_next m0 ⟨h1, h2, h3⟩ hH hK k1 k2 k3 k4 k5 k6 k7 l1 l2 l3
    have dy : DY S c_machine_netlist_pickTime c_machine_netlist_dropTime r.2.2.2.2.2.2.2.2.1 c_state_keys r.2.2.2.2.2.2.2.2.2.1 r.2.2.2.2.2.2.2.2.2.2.1 r.2.2.2.2.2.2.2.2.2.2.2.1 r.2.2.2.2.2.2.2.2.2.2.2.2.1 r.2.2.2.2.2.2.2.2.2.2.2.2.2.1 _ _ _ _ _ r3.1 r2.1 r2.2.1 r2.2.2 := ⟨by rw [q1]; exact d1, d2, g1⟩
    -- the slot is the state as it was
    have slot : SR (nkS S) r.2.2.2.2.2.2.2.2.2.2.2.2.2.2.1 r.2.2.2.2.2.2.2.2.2.2.2.2.2.2.2.1 r.2.2.2.2.2.2.2.2.2.2.2.2.2.2.2.2.1 r.2.2.2.2.2.2.2.2.2.2.2.2.2.2.2.2.2.1 r.2.2.2.2.2.2.2.2.2.2.2.2.2.2.2.2.2.2 (fun i => r2.2.2 (345 * ((c_latest.toInt.toNat + 1) % 100) + i)) := by
      rw [k3, k4, k5]
      refine SR_cg h1 k6 k7 (fun i hi => ?_)
      rw [l3, if_pos (by omega)]
      congr 1
      omega
    have eqv := SR_rest slot d1
    refine p2_l (x_restsAs _ _ _ _ _ _) (fun v hv => ?_)
    rcases hv with ⟨v1, v2⟩ | ⟨v1, v2⟩
    · rw [if_neg (by rw [v1]; decide)]
      refine p_quiet_21 _ c_side c_many c_one c_two c_kinds c_kindBits c_netOf c_stuck c_dusty c_part x1 r2.1 r2.2.1 r3.1 _ _ _ r2.2.2 ((c_latest.toInt.toNat + 1) % 100) (Nat.mod_lt _ (by decide)) l2 (fun _ => p2_some ⟨rfl, dy⟩) (fun q => absurd (eqv.mp v2) q) FU _ _ _ _ _ _ _ _ _ _ 0 rfl (by decide) (by decide) rfl rfl rfl rfl rfl rfl rfl (.inl ⟨by decide, fun i hi => absurd hi (Nat.not_lt_zero _)⟩)
    · rw [if_pos v1]
      refine p2_v1 ?_
      refine p_quiet_21 _ c_side c_many c_one c_two c_kinds c_kindBits c_netOf c_stuck c_dusty c_part x1 r2.1 r2.2.1 r3.1 _ _ _ r2.2.2 ((c_latest.toInt.toNat + 1) % 100) (Nat.mod_lt _ (by decide)) l2 (fun q => absurd (eqv.mpr q) v2) (fun _ => ?_) FU _ _ _ _ _ _ _ _ _ _ 0 rfl (by decide) (by decide) rfl rfl rfl rfl rfl rfl rfl (.inl ⟨by decide, fun i hi => absurd hi (Nat.not_lt_zero _)⟩)
      exact p_quiet_2 c_machine_netlist_nets c_machine_netlist_parts c_machine_netlist_pickTime c_machine_netlist_dropTime c_machine_netlist_contacts c_machine_netlist_makes c_machine_netlist_period c_machine_netlist_onTime c_machine_netlist_netOf c_machine_wear_stuckAt c_machine_wear_dusty c_state_keys c_side c_many c_one c_two c_kinds c_kindBits c_netOf c_stuck c_dusty c_part hA hI hIM hNX hNM hW hP n _ _ _ _ _ _ _ _ _ _ _ _ _ _ _ _ _ _ _ _ m _ _ _ _ _ _ _ dy g2 g3
set_option maxHeartbeats 400000 in
theorem p_quiet (c_machine_netlist_nets : Int32) (c_machine_netlist_parts : Nat → Int32) (c_machine_netlist_pickTime : Nat → Int32) (c_machine_netlist_dropTime : Nat → Int32) (c_machine_netlist_contacts : Nat → Int32) (c_machine_netlist_makes : Nat → Int32) (c_machine_netlist_period : Nat → Int32) (c_machine_netlist_onTime : Nat → Int32) (c_machine_netlist_netOf : Nat → Int32) (c_machine_wear_stuckAt : Nat → Int32) (c_machine_wear_dusty : Nat → Int32) (c_state_keys : Int32) (c_machine_ways_nets : Int32) (c_machine_ways_links : Int32) (c_machine_ways_firstLink : Nat → Int32) (c_machine_ways_nextLink : Nat → Int32) (c_machine_ways_leadsTo : Nat → Int32) (c_machine_ways_lets : Nat → Int32) (c_machine_ways_powers : Nat → Int32) (c_machine_ways_reached : Nat → Int32) (c_state_picked : Int64) (c_state_time : Int32) (c_state_counts : Nat → Int32) (c_state_positions : Nat → Int32) (c_history_next : Int32) (c_history_size : Int32) (pk : Nat → Int64) (ky : Nat → Int32) (tm : Nat → Int32) (cn : Nat → Nat → Int32) (po : Nat → Nat → Int32) (c_side : Int32) (c_many c_one c_two c_kinds c_kindBits c_netOf c_stuck c_dusty c_part : Nat → Int32) (c_kept c_latest : Int32) (c_state c_joined c_live c_ground c_past : Nat → Int32) {S : List StT} {σ : Nat} {toldNets : Int32} {names : Nat → Nat → Int64} {told nameSize nm isTold : Nat → Int32} (hA : allPin S (pnsOf S)) (hI : IX S toldNets c_machine_netlist_parts names c_machine_netlist_pickTime c_machine_netlist_dropTime c_machine_netlist_contacts c_machine_netlist_makes c_machine_netlist_period c_machine_netlist_onTime) (hIM : IM S σ c_side c_many nameSize c_one c_two c_kinds c_kindBits nm c_netOf) (hNX : NETX S toldNets c_machine_netlist_nets told c_machine_netlist_netOf) (hNM : NETM σ S c_netOf isTold) (hW : WR c_machine_wear_stuckAt c_machine_wear_dusty c_stuck c_dusty) (hP : ∀ r, r < 40 → c_part r = 0) (hD : DY S c_machine_netlist_pickTime c_machine_netlist_dropTime c_state_picked c_state_keys c_state_time c_state_counts c_state_positions c_history_next c_history_size pk ky tm cn po c_state c_kept c_latest c_past) (hH : HR c_history_next c_history_size) (hK : KR c_kept c_latest) : P2 (f_X10_quiet c_machine_netlist_nets c_machine_netlist_parts c_machine_netlist_pickTime c_machine_netlist_dropTime c_machine_netlist_contacts c_machine_netlist_makes c_machine_netlist_period c_machine_netlist_onTime c_machine_netlist_netOf c_machine_wear_stuckAt c_machine_wear_dusty c_state_keys c_machine_ways_nets c_machine_ways_links c_machine_ways_firstLink c_machine_ways_nextLink c_machine_ways_leadsTo c_machine_ways_lets c_machine_ways_powers c_machine_ways_reached c_state_picked c_state_time c_state_counts c_state_positions c_history_next c_history_size pk ky tm cn po) (f_X11_quiet c_side c_kept c_latest c_many c_one c_two c_kinds c_kindBits c_netOf c_state c_stuck c_dusty c_joined c_live c_ground c_part c_past) (fun rx rm => rx.1 = rm.1 ∧ DY S c_machine_netlist_pickTime c_machine_netlist_dropTime rx.2.2.2.2.2.2.2.2.2.1 c_state_keys rx.2.2.2.2.2.2.2.2.2.2.1 rx.2.2.2.2.2.2.2.2.2.2.2.1 rx.2.2.2.2.2.2.2.2.2.2.2.2.1 rx.2.2.2.2.2.2.2.2.2.2.2.2.2.1 rx.2.2.2.2.2.2.2.2.2.2.2.2.2.2.1 rx.2.2.2.2.2.2.2.2.2.2.2.2.2.2.2.1 rx.2.2.2.2.2.2.2.2.2.2.2.2.2.2.2.2.1 rx.2.2.2.2.2.2.2.2.2.2.2.2.2.2.2.2.2.1 rx.2.2.2.2.2.2.2.2.2.2.2.2.2.2.2.2.2.2.1 rx.2.2.2.2.2.2.2.2.2.2.2.2.2.2.2.2.2.2.2 rm.2.2.2.1 rm.2.1 rm.2.2.1 rm.2.2.2.2.2.2.2) := by
  unfold f_X10_quiet f_X11_quiet
  exact p_quiet_2 c_machine_netlist_nets c_machine_netlist_parts c_machine_netlist_pickTime c_machine_netlist_dropTime c_machine_netlist_contacts c_machine_netlist_makes c_machine_netlist_period c_machine_netlist_onTime c_machine_netlist_netOf c_machine_wear_stuckAt c_machine_wear_dusty c_state_keys c_side c_many c_one c_two c_kinds c_kindBits c_netOf c_stuck c_dusty c_part hA hI hIM hNX hNM hW hP FU _ _ _ _ _ _ _ _ _ _ _ _ _ _ _ _ _ _ _ _ FU _ _ _ _ _ _ _ hD hH hK
