/-! load and adder: what a netlist taken leaves, on both sides -/
def WZ (a b : Nat → Int32) : Prop := ∀ i, i < 240 → a i = -1 ∧ b i = 0
def SZ (p : Int64) (k t : Int32) (c po : Nat → Int32) : Prop := p = 0 ∧ k = 0 ∧ t = 0 ∧ ∀ i, i < 40 → c i = 0 ∧ po i = 0
set_option maxHeartbeats 400000 in
theorem x_clear9_2 : ∀ (n : Nat) (x1 : Int32) (c_stuckAt : Nat → Int32) (c_dusty : Nat → Int32) (k : Nat), x1.toInt = k → k ≤ 240 → (∀ i, i < k → c_stuckAt i = -1 ∧ c_dusty i = 0) → Pc (f_X9_clear_2 n x1 c_stuckAt c_dusty) (fun r => WZ r.1 r.2)
  | 0, x1, c_stuckAt, c_dusty, k, h1, h2, h3 => pc_none
  | n + 1, x1, c_stuckAt, c_dusty, k, h1, h2, h3 => by
    unfold f_X9_clear_2
    refine pc_if (fun a => pc_some (fun i hi => h3 i ?_)) (fun a => ?_)
    · rw [tI_le, l_240] at a; omega
    rw [tI_le, l_240] at a
    have ek : x1.toNatClampNeg = k := by rw [tI_nat]; omega
    refine pc_bad (fun _ => pc_vlet (pc_bad (fun _ => pc_vlet (pc_vlet ?_))))
    rw [ek]
    refine x_clear9_2 n _ _ _ (k + 1) (by ((try simp only [tI_lt, tI_le, tI_eq, tI_add, tI_sub, tI_mul, tI_nat, Int32.reduceToInt, Int.reduceToNat, fe_0, fe_1, fe_2, fe_3, fe_4, fe_5]) <;> (try simp (disch := omega) only [tI_bm]) <;> omega)) (by omega) (fun i hi => ?_)
    rw [upd_at, upd_at]
    by_cases z : i = k
    · rw [if_pos z, if_pos z]; exact ⟨rfl, rfl⟩
    · rw [if_neg z, if_neg z]; exact h3 i (by omega)
set_option maxHeartbeats 400000 in
theorem x_clear9 (c_stuckAt : Nat → Int32) (c_dusty : Nat → Int32) : Pc (f_X9_clear c_stuckAt c_dusty) (fun r => WZ r.1 r.2) := by
  unfold f_X9_clear
  exact x_clear9_2 FU 0 _ _ 0 (by decide) (by decide) (fun i hi => absurd hi (Nat.not_lt_zero _))
set_option maxHeartbeats 400000 in
theorem x_clear6_17 (p0 : Int64) (k0 t0 : Int32) : ∀ (n : Nat) (x1 : Int32) (c_picked : Int64) (c_keys : Int32) (c_time : Int32) (c_counts : Nat → Int32) (c_positions : Nat → Int32) (k : Nat), x1.toInt = k → k ≤ 40 → c_picked = p0 → c_keys = k0 → c_time = t0 → (∀ i, i < k → c_counts i = 0 ∧ c_positions i = 0) → Pc (f_X6_clear_17 n x1 c_picked c_keys c_time c_counts c_positions) (fun r => r.1 = p0 ∧ r.2.1 = k0 ∧ r.2.2.1 = t0 ∧ ∀ i, i < 40 → r.2.2.2.1 i = 0 ∧ r.2.2.2.2 i = 0)
  | 0, x1, c_picked, c_keys, c_time, c_counts, c_positions, k, h1, h2, e1, e2, e3, h3 => pc_none
  | n + 1, x1, c_picked, c_keys, c_time, c_counts, c_positions, k, h1, h2, e1, e2, e3, h3 => by
    unfold f_X6_clear_17
    refine pc_if (fun a => pc_some ⟨e1, e2, e3, fun i hi => h3 i ?_⟩) (fun a => ?_)
    · rw [tI_le, l_40] at a; omega
    rw [tI_le, l_40] at a
    have ek : x1.toNatClampNeg = k := by rw [tI_nat]; omega
    refine pc_bad (fun _ => pc_vlet (pc_bad (fun _ => pc_vlet (pc_vlet ?_))))
    rw [ek]
    refine x_clear6_17 p0 k0 t0 n _ _ _ _ _ _ (k + 1) (by ((try simp only [tI_lt, tI_le, tI_eq, tI_add, tI_sub, tI_mul, tI_nat, Int32.reduceToInt, Int.reduceToNat, fe_0, fe_1, fe_2, fe_3, fe_4, fe_5]) <;> (try simp (disch := omega) only [tI_bm]) <;> omega)) (by omega) e1 e2 e3 (fun i hi => ?_)
    rw [upd_at, upd_at]
    by_cases z : i = k
    · rw [if_pos z, if_pos z]; exact ⟨rfl, rfl⟩
    · rw [if_neg z, if_neg z]; exact h3 i (by omega)
set_option maxHeartbeats 400000 in
theorem x_clear6 (c_picked : Int64) (c_keys : Int32) (c_time : Int32) (c_counts : Nat → Int32) (c_positions : Nat → Int32) : Pc (f_X6_clear c_picked c_keys c_time c_counts c_positions) (fun r => SZ r.1 r.2.1 r.2.2.1 r.2.2.2.1 r.2.2.2.2) := by
  unfold f_X6_clear
  exact x_clear6_17 0 0 0 FU 0 0 0 0 _ _ 0 (by decide) (by decide) rfl rfl rfl (fun i hi => absurd hi (Nat.not_lt_zero _))
set_option maxHeartbeats 400000 in
theorem x_take (c_reader_draftF : Nat) (c_reader_draft_parts : Nat → Int32) (c_machine_netlistF : Nat) (c_machine_wear_stuckAt : Nat → Int32) (c_machine_wear_dusty : Nat → Int32) (c_state_picked : Int64) (c_state_keys : Int32) (c_state_time : Int32) (c_state_counts : Nat → Int32) (c_state_positions : Nat → Int32) (c_history_next : Int32) (c_history_size : Int32) (c_races_onTick : Int32) : Pc (f_X10_takeNetlist c_reader_draftF c_reader_draft_parts c_machine_netlistF c_machine_wear_stuckAt c_machine_wear_dusty c_state_picked c_state_keys c_state_time c_state_counts c_state_positions c_history_next c_history_size c_races_onTick) (fun r => WZ r.2.2.2.1 r.2.2.2.2.1 ∧ SZ r.2.2.2.2.2.1 r.2.2.2.2.2.2.1 r.2.2.2.2.2.2.2.1 r.2.2.2.2.2.2.2.2.1 r.2.2.2.2.2.2.2.2.2.1 ∧ r.2.2.2.2.2.2.2.2.2.2.2.2 = -1) := by
  unfold f_X10_takeNetlist
  exact pc_bind (x_clear9 _ _) (fun r1 q1 => pc_bind (x_clear6 _ _ _ _ _) (fun r2 q2 => pc_eq rfl (pc_eq rfl (pc_bad (fun _ => pc_some ⟨q1, q2, rfl⟩)))))
set_option maxHeartbeats 400000 in
theorem kt_0 (i : Nat) : kt 0 i = false := by
  by_cases h : i < 32
  · have : ∀ i, i < 32 → kt 0 i = false := by decide +kernel
    exact this i h
  · exact BitVec.getLsbD_of_ge _ _ (by omega)
set_option maxHeartbeats 400000 in
theorem SR_0 {nk : Nat → Nat} {p : Int64} {k t : Int32} {c po s : Nat → Int32} (h : SZ p k t c po) (hs : ∀ i, i < 345 → s i = 0) : SR nk p k t c po s := by
  obtain ⟨h1, h2, h3, h4⟩ := h
  subst h1 h2 h3
  refine ⟨fun i hi => ⟨.inl (hs i (by omega)), ?_⟩, fun i _ => btL_0 i, fun j hj => ?_, (hs 344 (by decide)).symm, fun i hi => ?_, fun r d hr hd => ?_, fun r hr _ => (h4 r hr).2⟩
  · unfold mB
    rw [hs i (by omega), btL_0]
    decide
  · rw [hs _ (by omega), kt_0]
    decide
  · rw [(h4 i hi).1, hs _ (by omega)]
  · rw [hs _ (by omega), (h4 r hr).2]
    split <;> rfl
set_option maxHeartbeats 400000 in
theorem WR_0 {a b c d : Nat → Int32} (h : WZ a b) (k : ∀ i, i < 240 → c i = -1 ∧ d i = 0) : WR a b c d := fun i hi => by
  rw [(h i hi).1, (h i hi).2, (k i hi).1, (k i hi).2]
  exact ⟨rfl, Iff.rfl⟩
set_option maxHeartbeats 400000 in
theorem DY_0 {S : List StT} {σ : Nat} {pick drop cont makes per on_ one two kinds bits : Nat → Int32} (hN : NLR S σ pick drop cont makes per on_ one two kinds bits) (hR : cnt 0 S ≤ 40) {p : Int64} {k t : Int32} {c po s : Nat → Int32} (h : SZ p k t c po) (hs : ∀ i, i < 345 → s i = 0) (next size : Int32) (pk : Nat → Int64) (ky tm : Nat → Int32) (cn po9 : Nat → Nat → Int32) (kept latest : Int32) (past : Nat → Int32) (z1 : size = 0) (z2 : kept = 0) : DY S pick drop p k t c po next size pk ky tm cn po9 s kept latest past := by
  refine ⟨SR_0 h hs, fun r hr => ?_, by rw [z1, z2], fun j a b j1 j2 => ?_⟩
  · have n := hN.1 r hr
    dsimp only
    rw [hs _ (by omega), l_0]
    refine ⟨by decide, ?_⟩
    split <;> omega
  · rw [z1, l_0] at j2
    omega
set_option maxHeartbeats 400000 in
theorem acc_ok {o : Option (List StT)} (h : accT o) : o = some (getT o) ∧ okS (getT o) = true ∧ allPin (getT o) (pnsOf (getT o)) := by
  cases o with
  | none => exact h.elim
  | some S => exact ⟨rfl, h.1, h.2⟩
/-! the class's load -/
set_option maxHeartbeats 400000 in
theorem x_load3 (x1 : Int32) (c_taped : Int32) (c_fault : Int32) (c_faultPlace : Int32) (c_tape : Nat → Int32) (c_reader_draftF : Nat) (c_reader_fault : Int32) (c_reader_faultPlace : Int32) (c_reader_firstMany : Int32) (c_reader_firstTwice : Int32) (c_reader_at : Int32) (c_reader_nameAt : Int32) (c_reader_number : Int32) (c_reader_pins : Int32) (c_reader_wires : Int32) (c_reader_tokens_length : Int32) (c_reader_tokens_size : Int32) (c_reader_tokens_text : Nat → Int32) (c_reader_tokens_kinds : Nat → Int32) (c_reader_tokens_places : Nat → Int32) (c_reader_tokens_values : Nat → Int64) (c_reader_draft_toldNets : Int32) (c_reader_draft_nets : Int32) (c_reader_draft_parts : Nat → Int32) (c_reader_draft_names : Nat → Nat → Int64) (c_reader_draft_pickTime : Nat → Int32) (c_reader_draft_dropTime : Nat → Int32) (c_reader_draft_contacts : Nat → Int32) (c_reader_draft_makes : Nat → Int32) (c_reader_draft_period : Nat → Int32) (c_reader_draft_onTime : Nat → Int32) (c_reader_draft_told : Nat → Int32) (c_reader_draft_joined : Nat → Int32) (c_reader_draft_netOf : Nat → Int32) (c_reader_pinAt : Nat → Int32) (c_reader_pinEnds : Nat → Int32) (c_reader_pinWires : Nat → Int32) (c_machine_netlistF : Nat) (c_machine_wear_stuckAt : Nat → Int32) (c_machine_wear_dusty : Nat → Int32) (c_state_picked : Int64) (c_state_keys : Int32) (c_state_time : Int32) (c_state_counts : Nat → Int32) (c_state_positions : Nat → Int32) (c_history_next : Int32) (c_history_size : Int32) (c_races_onTick : Int32) (h1 : 0 ≤ c_taped.toInt) (h2 : c_taped.toInt ≤ 4000) (hB : BYA c_tape) (hPA : PA c_reader_tokens_places) (hC : CB c_reader_draft_contacts) : Pc (f_X10_load x1 c_taped c_fault c_faultPlace c_tape c_reader_draftF c_reader_fault c_reader_faultPlace c_reader_firstMany c_reader_firstTwice c_reader_at c_reader_nameAt c_reader_number c_reader_pins c_reader_wires c_reader_tokens_length c_reader_tokens_size c_reader_tokens_text c_reader_tokens_kinds c_reader_tokens_places c_reader_tokens_values c_reader_draft_toldNets c_reader_draft_nets c_reader_draft_parts c_reader_draft_names c_reader_draft_pickTime c_reader_draft_dropTime c_reader_draft_contacts c_reader_draft_makes c_reader_draft_period c_reader_draft_onTime c_reader_draft_told c_reader_draft_joined c_reader_draft_netOf c_reader_pinAt c_reader_pinEnds c_reader_pinWires c_machine_netlistF c_machine_wear_stuckAt c_machine_wear_dusty c_state_picked c_state_keys c_state_time c_state_counts c_state_positions c_history_next c_history_size c_races_onTick) (fun r => (¬ ((0 ≤ x1.toInt ∧ x1.toInt ≤ c_taped.toInt) ∧ accT (stmtsT c_tape x1.toInt.toNat)) ∧ r.2.2.2.2.2.2.2.2.2.2.2.2.2.2.2.2.2.2.2.2.2.2.2.2.2.2.2.2.2.2.2.2.2.2.2.2.2.1 = c_machine_wear_stuckAt ∧ r.2.2.2.2.2.2.2.2.2.2.2.2.2.2.2.2.2.2.2.2.2.2.2.2.2.2.2.2.2.2.2.2.2.2.2.2.2.2.1 = c_machine_wear_dusty ∧ r.2.2.2.2.2.2.2.2.2.2.2.2.2.2.2.2.2.2.2.2.2.2.2.2.2.2.2.2.2.2.2.2.2.2.2.2.2.2.2.1 = c_state_picked ∧ r.2.2.2.2.2.2.2.2.2.2.2.2.2.2.2.2.2.2.2.2.2.2.2.2.2.2.2.2.2.2.2.2.2.2.2.2.2.2.2.2.1 = c_state_keys ∧ r.2.2.2.2.2.2.2.2.2.2.2.2.2.2.2.2.2.2.2.2.2.2.2.2.2.2.2.2.2.2.2.2.2.2.2.2.2.2.2.2.2.1 = c_state_time ∧ r.2.2.2.2.2.2.2.2.2.2.2.2.2.2.2.2.2.2.2.2.2.2.2.2.2.2.2.2.2.2.2.2.2.2.2.2.2.2.2.2.2.2.1 = c_state_counts ∧ r.2.2.2.2.2.2.2.2.2.2.2.2.2.2.2.2.2.2.2.2.2.2.2.2.2.2.2.2.2.2.2.2.2.2.2.2.2.2.2.2.2.2.2.1 = c_state_positions ∧ r.2.2.2.2.2.2.2.2.2.2.2.2.2.2.2.2.2.2.2.2.2.2.2.2.2.2.2.2.2.2.2.2.2.2.2.2.2.2.2.2.2.2.2.2.1 = c_history_next ∧ r.2.2.2.2.2.2.2.2.2.2.2.2.2.2.2.2.2.2.2.2.2.2.2.2.2.2.2.2.2.2.2.2.2.2.2.2.2.2.2.2.2.2.2.2.2.1 = c_history_size ∧ r.2.2.2.2.2.2.2.2.2.2.2.2.2.2.2.2.2.2.2.2.2.2.2.2.2.2.2.2.2.2.2.2.2.2.2.2.2.2.2.2.2.2.2.2.2.2 = c_races_onTick) ∨ (((0 ≤ x1.toInt ∧ x1.toInt ≤ c_taped.toInt) ∧ accT (stmtsT c_tape x1.toInt.toNat)) ∧ NETX (getT (stmtsT c_tape x1.toInt.toNat)) r.2.2.2.2.2.2.2.2.2.2.2.2.2.2.2.2.2.2.2.2.1 r.2.2.2.2.2.2.2.2.2.2.2.2.2.2.2.2.2.2.2.2.2.1 r.2.2.2.2.2.2.2.2.2.2.2.2.2.2.2.2.2.2.2.2.2.2.2.2.2.2.2.2.2.2.1 r.2.2.2.2.2.2.2.2.2.2.2.2.2.2.2.2.2.2.2.2.2.2.2.2.2.2.2.2.2.2.2.2.1 ∧ WZ r.2.2.2.2.2.2.2.2.2.2.2.2.2.2.2.2.2.2.2.2.2.2.2.2.2.2.2.2.2.2.2.2.2.2.2.2.2.1 r.2.2.2.2.2.2.2.2.2.2.2.2.2.2.2.2.2.2.2.2.2.2.2.2.2.2.2.2.2.2.2.2.2.2.2.2.2.2.1 ∧ SZ r.2.2.2.2.2.2.2.2.2.2.2.2.2.2.2.2.2.2.2.2.2.2.2.2.2.2.2.2.2.2.2.2.2.2.2.2.2.2.2.1 r.2.2.2.2.2.2.2.2.2.2.2.2.2.2.2.2.2.2.2.2.2.2.2.2.2.2.2.2.2.2.2.2.2.2.2.2.2.2.2.2.1 r.2.2.2.2.2.2.2.2.2.2.2.2.2.2.2.2.2.2.2.2.2.2.2.2.2.2.2.2.2.2.2.2.2.2.2.2.2.2.2.2.2.1 r.2.2.2.2.2.2.2.2.2.2.2.2.2.2.2.2.2.2.2.2.2.2.2.2.2.2.2.2.2.2.2.2.2.2.2.2.2.2.2.2.2.2.1 r.2.2.2.2.2.2.2.2.2.2.2.2.2.2.2.2.2.2.2.2.2.2.2.2.2.2.2.2.2.2.2.2.2.2.2.2.2.2.2.2.2.2.2.1 ∧ r.2.2.2.2.2.2.2.2.2.2.2.2.2.2.2.2.2.2.2.2.2.2.2.2.2.2.2.2.2.2.2.2.2.2.2.2.2.2.2.2.2.2.2.2.2.2 = -1)) := by
  unfold f_X10_load
  refine pc_if (fun a => pc_some (.inl ⟨?_, rfl, rfl, rfl, rfl, rfl, rfl, rfl, rfl, rfl, rfl⟩)) (fun a => pc_if (fun b => ?_) (fun b => pc_some (.inl ⟨?_, rfl, rfl, rfl, rfl, rfl, rfl, rfl, rfl, rfl, rfl⟩)))
  · rw [tI_lt, l_0] at a
    exact fun q => by omega
  · rw [tI_lt, l_0] at a
    rw [tI_le] at b
    have ec : stmtsT (va_cpy c_tape c_reader_tokens_text 0 0 x1.toInt.toNat) x1.toInt.toNat = stmtsT c_tape x1.toInt.toNat := by
      refine stmts_cg _ _ _ (fun i hi => ?_)
      unfold va_cpy
      rw [if_pos ⟨Nat.zero_le _, by omega⟩]
      congr 1
      omega
    refine pc_eq (e_copyT _ _ _ _ (by omega) (by omega) hB) ?_
    by_cases acc : accT (stmtsT c_tape x1.toInt.toNat)
    · refine pc_bind (pc_and (pc_ok (s_X5_read _ _ _ _ _ _ _ _ _ _ _ _ _ _ _ _ _ _ _ _ _ _ _ _ _ _ _ _ _ _ _ (by dsimp only; omega) hPA hC)) (x_read _ _ _ _ _ _ _ _ _ _ _ _ _ _ _ _ _ _ _ _ _ _ _ _ _ _ _ _ _ _ _ (by dsimp only; omega) hPA hC (by dsimp only; rw [ec]; exact (acc_ok acc).2.1))) (fun r2 hr => ?_)
      dsimp only at hr
      rw [ec] at hr
      obtain ⟨⟨k1, k2, k3⟩, kN⟩ := hr
      rcases k3 with ⟨g1, g2, -⟩ | ⟨g1, g2⟩
      · rw [if_neg (by rw [g2]; decide)]
        exact pc_bind (x_take _ _ _ _ _ _ _ _ _ _ _ _ _) (fun r3 h3 => pc_some (.inr ⟨⟨⟨by omega, b⟩, acc⟩, kN g2, h3.1, h3.2⟩))
      · exact absurd acc g1
    · refine pc_bind (pc_ok (s_X5_read _ _ _ _ _ _ _ _ _ _ _ _ _ _ _ _ _ _ _ _ _ _ _ _ _ _ _ _ _ _ _ (by dsimp only; omega) hPA hC)) (fun r2 hr => ?_)
      dsimp only at hr
      rw [ec] at hr
      obtain ⟨k1, k2, k3⟩ := hr
      rcases k3 with ⟨g1, -⟩ | ⟨g1, g2⟩
      · exact absurd g1 acc
      · rw [if_pos g2]
        exact pc_some (.inl ⟨fun q => acc q.2, rfl, rfl, rfl, rfl, rfl, rfl, rfl, rfl, rfl, rfl⟩)
  · rw [tI_le] at b
    exact fun q => b q.1.2
/-! the class's adder -/
set_option maxHeartbeats 400000 in
theorem x_adder3 (x1 : Int32) (c_reader_draftF : Nat) (c_reader_fault : Int32) (c_reader_faultPlace : Int32) (c_reader_firstMany : Int32) (c_reader_firstTwice : Int32) (c_reader_at : Int32) (c_reader_nameAt : Int32) (c_reader_number : Int32) (c_reader_pins : Int32) (c_reader_wires : Int32) (c_reader_tokens_length : Int32) (c_reader_tokens_size : Int32) (c_reader_tokens_text : Nat → Int32) (c_reader_tokens_kinds : Nat → Int32) (c_reader_tokens_places : Nat → Int32) (c_reader_tokens_values : Nat → Int64) (c_reader_draft_toldNets : Int32) (c_reader_draft_nets : Int32) (c_reader_draft_parts : Nat → Int32) (c_reader_draft_names : Nat → Nat → Int64) (c_reader_draft_pickTime : Nat → Int32) (c_reader_draft_dropTime : Nat → Int32) (c_reader_draft_contacts : Nat → Int32) (c_reader_draft_makes : Nat → Int32) (c_reader_draft_period : Nat → Int32) (c_reader_draft_onTime : Nat → Int32) (c_reader_draft_told : Nat → Int32) (c_reader_draft_joined : Nat → Int32) (c_reader_draft_netOf : Nat → Int32) (c_reader_pinAt : Nat → Int32) (c_reader_pinEnds : Nat → Int32) (c_reader_pinWires : Nat → Int32) (c_machine_netlistF : Nat) (c_machine_wear_stuckAt : Nat → Int32) (c_machine_wear_dusty : Nat → Int32) (c_state_picked : Int64) (c_state_keys : Int32) (c_state_time : Int32) (c_state_counts : Nat → Int32) (c_state_positions : Nat → Int32) (c_history_next : Int32) (c_history_size : Int32) (c_races_onTick : Int32) (hPA : PA c_reader_tokens_places) (hC : CB c_reader_draft_contacts) (m : Nat) (e1 : x1 = Int32.ofNat m) (m1 : 1 ≤ m) (m7 : m ≤ 7) : Pc (f_X10_adder x1 c_reader_draftF c_reader_fault c_reader_faultPlace c_reader_firstMany c_reader_firstTwice c_reader_at c_reader_nameAt c_reader_number c_reader_pins c_reader_wires c_reader_tokens_length c_reader_tokens_size c_reader_tokens_text c_reader_tokens_kinds c_reader_tokens_places c_reader_tokens_values c_reader_draft_toldNets c_reader_draft_nets c_reader_draft_parts c_reader_draft_names c_reader_draft_pickTime c_reader_draft_dropTime c_reader_draft_contacts c_reader_draft_makes c_reader_draft_period c_reader_draft_onTime c_reader_draft_told c_reader_draft_joined c_reader_draft_netOf c_reader_pinAt c_reader_pinEnds c_reader_pinWires c_machine_netlistF c_machine_wear_stuckAt c_machine_wear_dusty c_state_picked c_state_keys c_state_time c_state_counts c_state_positions c_history_next c_history_size c_races_onTick) (fun r => NETX (getT (stmtsL (adT m))) r.2.2.2.2.2.2.2.2.2.2.2.2.2.2.2.2.2.1 r.2.2.2.2.2.2.2.2.2.2.2.2.2.2.2.2.2.2.1 r.2.2.2.2.2.2.2.2.2.2.2.2.2.2.2.2.2.2.2.2.2.2.2.2.2.2.2.1 r.2.2.2.2.2.2.2.2.2.2.2.2.2.2.2.2.2.2.2.2.2.2.2.2.2.2.2.2.2.1 ∧ WZ r.2.2.2.2.2.2.2.2.2.2.2.2.2.2.2.2.2.2.2.2.2.2.2.2.2.2.2.2.2.2.2.2.2.2.1 r.2.2.2.2.2.2.2.2.2.2.2.2.2.2.2.2.2.2.2.2.2.2.2.2.2.2.2.2.2.2.2.2.2.2.2.1 ∧ SZ r.2.2.2.2.2.2.2.2.2.2.2.2.2.2.2.2.2.2.2.2.2.2.2.2.2.2.2.2.2.2.2.2.2.2.2.2.1 r.2.2.2.2.2.2.2.2.2.2.2.2.2.2.2.2.2.2.2.2.2.2.2.2.2.2.2.2.2.2.2.2.2.2.2.2.2.1 r.2.2.2.2.2.2.2.2.2.2.2.2.2.2.2.2.2.2.2.2.2.2.2.2.2.2.2.2.2.2.2.2.2.2.2.2.2.2.1 r.2.2.2.2.2.2.2.2.2.2.2.2.2.2.2.2.2.2.2.2.2.2.2.2.2.2.2.2.2.2.2.2.2.2.2.2.2.2.2.1 r.2.2.2.2.2.2.2.2.2.2.2.2.2.2.2.2.2.2.2.2.2.2.2.2.2.2.2.2.2.2.2.2.2.2.2.2.2.2.2.2.1 ∧ r.2.2.2.2.2.2.2.2.2.2.2.2.2.2.2.2.2.2.2.2.2.2.2.2.2.2.2.2.2.2.2.2.2.2.2.2.2.2.2.2.2.2.2 = -1) := by
  unfold f_X10_adder
  have mx : x1.toInt = (m : Int) := by rw [e1]; exact Int32.toInt_ofNat_of_lt (by omega)
  refine pc_if (fun a => ?_) (fun a => pc_if (fun b => ?_) (fun b => ?_))
  · exfalso
    rw [tI_lt, l_1] at a
    omega
  · refine pc_bind (pc_ok (s_write _ _ _ m e1 m7)) (fun r1 q1 => ?_)
    have al : (adT m).length ≤ 4000 := by
      unfold adT
      rw [List.length_append, adB_len m (by omega), endL_len m (by omega)]
      omega
    have q11 := q1.1
    have et : r1.1.toInt.toNat = (adT m).length := by omega
    have est := stmtsT_CT _ _ _ q1
    have acc := accB_t (ad_ok m (by omega) m1).1
    refine pc_bind (pc_and (pc_ok (s_X5_read (c_fault := c_reader_fault) (c_faultPlace := c_reader_faultPlace) (c_firstMany := c_reader_firstMany) (c_firstTwice := c_reader_firstTwice) (c_at := c_reader_at) (c_nameAt := c_reader_nameAt) (c_number := c_reader_number) (c_pins := c_reader_pins) (c_wires := c_reader_wires) (c_tokens_length := r1.1) (c_tokens_size := c_reader_tokens_size) (c_tokens_text := r1.2) (c_tokens_kinds := c_reader_tokens_kinds) (c_tokens_places := c_reader_tokens_places) (c_tokens_values := c_reader_tokens_values) (c_draft_toldNets := c_reader_draft_toldNets) (c_draft_nets := c_reader_draft_nets) (c_draft_parts := c_reader_draft_parts) (c_draft_names := c_reader_draft_names) (c_draft_pickTime := c_reader_draft_pickTime) (c_draft_dropTime := c_reader_draft_dropTime) (c_draft_contacts := c_reader_draft_contacts) (c_draft_makes := c_reader_draft_makes) (c_draft_period := c_reader_draft_period) (c_draft_onTime := c_reader_draft_onTime) (c_draft_told := c_reader_draft_told) (c_draft_joined := c_reader_draft_joined) (c_draft_netOf := c_reader_draft_netOf) (c_pinAt := c_reader_pinAt) (c_pinEnds := c_reader_pinEnds) (c_pinWires := c_reader_pinWires) (by omega) hPA hC)) (x_read (c_fault := c_reader_fault) (c_faultPlace := c_reader_faultPlace) (c_firstMany := c_reader_firstMany) (c_firstTwice := c_reader_firstTwice) (c_at := c_reader_at) (c_nameAt := c_reader_nameAt) (c_number := c_reader_number) (c_pins := c_reader_pins) (c_wires := c_reader_wires) (c_tokens_length := r1.1) (c_tokens_size := c_reader_tokens_size) (c_tokens_text := r1.2) (c_tokens_kinds := c_reader_tokens_kinds) (c_tokens_places := c_reader_tokens_places) (c_tokens_values := c_reader_tokens_values) (c_draft_toldNets := c_reader_draft_toldNets) (c_draft_nets := c_reader_draft_nets) (c_draft_parts := c_reader_draft_parts) (c_draft_names := c_reader_draft_names) (c_draft_pickTime := c_reader_draft_pickTime) (c_draft_dropTime := c_reader_draft_dropTime) (c_draft_contacts := c_reader_draft_contacts) (c_draft_makes := c_reader_draft_makes) (c_draft_period := c_reader_draft_period) (c_draft_onTime := c_reader_draft_onTime) (c_draft_told := c_reader_draft_told) (c_draft_joined := c_reader_draft_joined) (c_draft_netOf := c_reader_draft_netOf) (c_pinAt := c_reader_pinAt) (c_pinEnds := c_reader_pinEnds) (c_pinWires := c_reader_pinWires) (by omega) hPA hC (by rw [et, est]; exact (acc_ok acc).2.1))) (fun r2 hr => ?_)
    rw [et, est] at hr
    obtain ⟨⟨k1, k2, k3⟩, kN⟩ := hr
    rcases k3 with ⟨g1, g2, -⟩ | ⟨g1, g2⟩
    · rw [if_neg (by rw [g2]; decide)]
      exact pc_bind (x_take _ _ _ _ _ _ _ _ _ _ _ _ _) (fun r3 h3 => pc_some ⟨kN g2, h3.1, h3.2⟩)
    · exact absurd acc g1
  · exfalso
    rw [tI_le, l_7] at b
    omega
/-! the reference's load -/
set_option maxHeartbeats 400000 in
theorem m_load_17 (c_tape : Nat → Int32) (σ L : Nat) (hσ : σ ≤ 1) (hL : L ≤ 4000) (hB : BYA c_tape) (S : List StT) (hok : okS S = true) (hA : allPin S (pnsOf S)) (hE : ∀ v c, okPin S v c = true → enS S v c < 954) (hS : stmtsT c_tape L = some S) : ∀ (n : Nat) (x1 : Int32) (x2 : Int32) (c_taped : Int32) (c_size : Int32) (c_tokens : Int32) (c_at : Int32) (c_wrong : Int32) (c_wrongAt : Int32) (c_fault : Int32) (c_faultAt : Int32) (c_side : Int32) (c_fresh : Int32) (c_kept : Int32) (c_raceTick : Int32) (c_text : Nat → Int32) (c_tKind : Nat → Int32) (c_tPlace : Nat → Int32) (c_tSize : Nat → Int32) (c_tValue : Nat → Int64) (c_many : Nat → Int32) (c_nameSize : Nat → Int32) (c_one : Nat → Int32) (c_two : Nat → Int32) (c_kinds : Nat → Int32) (c_kindBits : Nat → Int32) (c_names : Nat → Int32) (c_netOf : Nat → Int32) (c_isTold : Nat → Int32) (c_soFar : Nat → Int32) (c_state : Nat → Int32) (c_stuck : Nat → Int32) (c_dusty : Nat → Int32), c_side.toInt = σ → GB c_nameSize c_kinds → x1.toInt = L → 0 ≤ x2.toInt → (∀ k : Nat, (k : Int) < x2.toInt → c_text k = c_tape k) → Pc (f_X11_load_17 c_tape n x1 x2 c_taped c_size c_tokens c_at c_wrong c_wrongAt c_fault c_faultAt c_side c_fresh c_kept c_raceTick c_text c_tKind c_tPlace c_tSize c_tValue c_many c_nameSize c_one c_two c_kinds c_kindBits c_names c_netOf c_isTold c_soFar c_state c_stuck c_dusty) (fun r => NETM (1 - σ) S r.2.2.2.2.2.2.2.2.2.2.2.2.2.2.2.2.2.2.2.2.2.2.2.2.2.1 r.2.2.2.2.2.2.2.2.2.2.2.2.2.2.2.2.2.2.2.2.2.2.2.2.2.2.1)
  | 0, x1, x2, c_taped, c_size, c_tokens, c_at, c_wrong, c_wrongAt, c_fault, c_faultAt, c_side, c_fresh, c_kept, c_raceTick, c_text, c_tKind, c_tPlace, c_tSize, c_tValue, c_many, c_nameSize, c_one, c_two, c_kinds, c_kindBits, c_names, c_netOf, c_isTold, c_soFar, c_state, c_stuck, c_dusty, hs, hG, h1, h2, h5 => pc_none
  | n + 1, x1, x2, c_taped, c_size, c_tokens, c_at, c_wrong, c_wrongAt, c_fault, c_faultAt, c_side, c_fresh, c_kept, c_raceTick, c_text, c_tKind, c_tPlace, c_tSize, c_tValue, c_many, c_nameSize, c_one, c_two, c_kinds, c_kindBits, c_names, c_netOf, c_isTold, c_soFar, c_state, c_stuck, c_dusty, hs, hG, h1, h2, h5 => by
    unfold f_X11_load_17
    refine pc_if (fun q => ?_) (fun q => ?_)
    · rw [tI_le] at q
      have hall : ∀ k : Nat, k < L → c_text k = c_tape k := fun k hk => h5 k (by omega)
      have ec : stmtsT c_text L = stmtsT c_tape L := stmts_cg _ _ _ hall
      refine pc_bind (m_reads _ _ _ _ _ _ _ _ _ _ _ _ _ _ _ _ _ _ _ _ _ _ _ _ _ _ _ σ L hσ hs h1 hL (fun i hi => by rw [hall i hi]; exact hB i) hG S (ec.trans hS) hok hA hE) (fun r hr => ?_)
      unfold f_X11_load_74
      exact pc_if (fun _ => pc_if (fun _ => pc_bad (fun _ => pc_some hr)) (fun _ => pc_some hr)) (fun _ => pc_if (fun _ => pc_bad (fun _ => pc_some hr)) (fun _ => pc_some hr))
    · rw [tI_le] at q
      refine pc_bad (fun v => pc_vlet (pc_bad (fun _ => pc_vlet (pc_vlet ?_))))
      have v2 := v.2
      have b3 : (x2 + 1).toInt = x2.toInt + 1 := by ((try simp only [tI_lt, tI_le, tI_eq, tI_add, tI_sub, tI_mul, tI_nat, Int32.reduceToInt, Int.reduceToNat, fe_0, fe_1, fe_2, fe_3, fe_4, fe_5]) <;> (try simp (disch := omega) only [tI_bm]) <;> omega)
      have nb : vp_nar .byte (c_tape x2.toInt.toNat) = c_tape x2.toInt.toNat := by
        rw [nar_byte]
        exact i2b_id (hB _).1 (hB _).2
      rw [tI_nat, nb]
      refine m_load_17 c_tape σ L hσ hL hB S hok hA hE hS n _ _ _ _ _ _ _ _ _ _ _ _ _ _ _ _ _ _ _ _ _ _ _ _ _ _ _ _ _ _ _ _ hs hG h1 (by omega) (fun k hk => ?_)
      rw [upd_at]
      by_cases z : k = x2.toInt.toNat
      · rw [if_pos z, z]
      · rw [if_neg z]; exact h5 k (by omega)
set_option maxHeartbeats 400000 in
theorem m_load3 (x1 : Int32) (c_taped : Int32) (c_size : Int32) (c_tokens : Int32) (c_at : Int32) (c_wrong : Int32) (c_wrongAt : Int32) (c_fault : Int32) (c_faultAt : Int32) (c_side : Int32) (c_fresh : Int32) (c_kept : Int32) (c_raceTick : Int32) (c_tape : Nat → Int32) (c_text : Nat → Int32) (c_tKind : Nat → Int32) (c_tPlace : Nat → Int32) (c_tSize : Nat → Int32) (c_tValue : Nat → Int64) (c_many : Nat → Int32) (c_nameSize : Nat → Int32) (c_one : Nat → Int32) (c_two : Nat → Int32) (c_kinds : Nat → Int32) (c_kindBits : Nat → Int32) (c_names : Nat → Int32) (c_netOf : Nat → Int32) (c_isTold : Nat → Int32) (c_soFar : Nat → Int32) (c_state : Nat → Int32) (c_stuck : Nat → Int32) (c_dusty : Nat → Int32) (σ L : Nat) (hσ : σ ≤ 1) (hs : c_side.toInt = σ) (h2 : c_taped.toInt ≤ 4000) (hB : BYA c_tape) (hG : GB c_nameSize c_kinds) (S : List StT) (hok : okS S = true) (hA : allPin S (pnsOf S)) (hE : ∀ v c, okPin S v c = true → enS S v c < 954) (hS : stmtsT c_tape L = some S) (hx : x1.toInt = L) (hxt : x1.toInt ≤ c_taped.toInt) : Pc (f_X11_load x1 c_taped c_size c_tokens c_at c_wrong c_wrongAt c_fault c_faultAt c_side c_fresh c_kept c_raceTick c_tape c_text c_tKind c_tPlace c_tSize c_tValue c_many c_nameSize c_one c_two c_kinds c_kindBits c_names c_netOf c_isTold c_soFar c_state c_stuck c_dusty) (fun r => NETM (1 - σ) S r.2.2.2.2.2.2.2.2.2.2.2.2.2.2.2.2.2.2.2.2.2.2.2.2.2.1 r.2.2.2.2.2.2.2.2.2.2.2.2.2.2.2.2.2.2.2.2.2.2.2.2.2.2.1) := by
  unfold f_X11_load
  refine pc_if (fun a => ?_) (fun a => pc_if (fun b => ?_) (fun b => ?_))
  · exfalso
    rw [tI_lt, l_0] at a
    omega
  · exact m_load_17 c_tape σ L hσ (by omega) hB S hok hA hE hS FU x1 0 _ _ _ _ _ _ _ _ _ _ _ _ _ _ _ _ _ _ _ _ _ _ _ _ _ _ _ _ _ _ hs hG hx (by decide) (fun k hk => by rw [l_0] at hk; omega)
  · exfalso
    rw [tI_le] at b
    exact b hxt
/-! the reference's adder -/
set_option maxHeartbeats 400000 in
theorem m_adder_20 : ∀ (n : Nat) (x1 : Int32) (x2 : Int32) (c_size : Int32) (c_tokens : Int32) (c_at : Int32) (c_fault : Int32) (c_faultAt : Int32) (c_side : Int32) (c_fresh : Int32) (c_kept : Int32) (c_raceTick : Int32) (c_text : Nat → Int32) (c_tKind : Nat → Int32) (c_tPlace : Nat → Int32) (c_tSize : Nat → Int32) (c_tValue : Nat → Int64) (c_many : Nat → Int32) (c_nameSize : Nat → Int32) (c_one : Nat → Int32) (c_two : Nat → Int32) (c_kinds : Nat → Int32) (c_kindBits : Nat → Int32) (c_names : Nat → Int32) (c_netOf : Nat → Int32) (c_isTold : Nat → Int32) (c_soFar : Nat → Int32) (c_state : Nat → Int32) (c_stuck : Nat → Int32) (c_dusty : Nat → Int32) (σ m i : Nat), c_side.toInt = σ → σ ≤ 1 → x1 = Int32.ofNat m → 1 ≤ m → m ≤ 7 → x2 = Int32.ofNat i → i ≤ m → CT (adB i) c_size c_text → GB c_nameSize c_kinds → (∀ v c, okPin (getT (stmtsL (adT m))) v c = true → enS (getT (stmtsL (adT m))) v c < 954) → Pc (f_X11_adder_20 n x1 x2 c_size c_tokens c_at c_fault c_faultAt c_side c_fresh c_kept c_raceTick c_text c_tKind c_tPlace c_tSize c_tValue c_many c_nameSize c_one c_two c_kinds c_kindBits c_names c_netOf c_isTold c_soFar c_state c_stuck c_dusty) (fun r => NETM (1 - σ) (getT (stmtsL (adT m))) r.2.2.2.2.2.2.2.2.2.2.2.2.2.2.2.2.2.2.2.2.2.2.1 r.2.2.2.2.2.2.2.2.2.2.2.2.2.2.2.2.2.2.2.2.2.2.2.1)
  | 0, x1, x2, c_size, c_tokens, c_at, c_fault, c_faultAt, c_side, c_fresh, c_kept, c_raceTick, c_text, c_tKind, c_tPlace, c_tSize, c_tValue, c_many, c_nameSize, c_one, c_two, c_kinds, c_kindBits, c_names, c_netOf, c_isTold, c_soFar, c_state, c_stuck, c_dusty, σ, m, i, hs, hσ, h1, m1, hm, h2, hi, h, hG, hE => pc_none
  | n + 1, x1, x2, c_size, c_tokens, c_at, c_fault, c_faultAt, c_side, c_fresh, c_kept, c_raceTick, c_text, c_tKind, c_tPlace, c_tSize, c_tValue, c_many, c_nameSize, c_one, c_two, c_kinds, c_kindBits, c_names, c_netOf, c_isTold, c_soFar, c_state, c_stuck, c_dusty, σ, m, i, hs, hσ, h1, m1, hm, h2, hi, h, hG, hE => by
    unfold f_X11_adder_20
    have e1 : x1.toInt = m := by rw [h1]; exact Int32.toInt_ofNat_of_lt (by omega)
    have e2 : x2.toInt = i := by rw [h2]; exact Int32.toInt_ofNat_of_lt (by omega)
    have hl := adB_len i (by omega)
    refine pc_if (fun q => ?_) (fun q => ?_)
    · rw [tI_le] at q
      have : i = m := by omega
      subst this
      rw [endO_eq]
      have el := endO_len i (by omega)
      refine pc_bind (pc_ok (s_ops x1 i e1 hm endO c_size c_text (adB i) endO_ok h (by omega))) (fun r1 q1 => ?_)
      rw [end_eq i (by omega)] at q1
      have q1' : CT (adT i) r1.1 r1.2 := q1
      have al : (adT i).length ≤ 4000 := by
        unfold adT
        rw [List.length_append, hl, endL_len i (by omega)]
        omega
      have hB : BY r1.2 (adT i).length := fun k hk => by
        have := q1'.2 k hk
        have hb : (adT i).getD k 0 < 128 := by
          have hall : ∀ n, n < 8 → (adT n).all (fun c => decide (c < 128)) = true := by decide +kernel
          have := List.all_eq_true.mp (hall i (by omega)) ((adT i).getD k 0) (by
            rw [List.getD_eq_getElem?_getD, List.getElem?_eq_getElem hk]
            exact List.getElem_mem hk)
          rw [decide_eq_true_eq] at this
          exact this
        omega
      have acc := acc_ok (accB_t (ad_ok i (by omega) m1).1)
      refine pc_bind (m_reads (c_size := r1.1) (c_text := r1.2) (c_tokens := c_tokens) (c_at := c_at) (c_fault := c_fault) (c_faultAt := c_faultAt) (c_side := c_side) (c_fresh := c_fresh) (c_kept := c_kept) (c_raceTick := c_raceTick) (c_tKind := c_tKind) (c_tPlace := c_tPlace) (c_tSize := c_tSize) (c_tValue := c_tValue) (c_many := c_many) (c_nameSize := c_nameSize) (c_one := c_one) (c_two := c_two) (c_kinds := c_kinds) (c_kindBits := c_kindBits) (c_names := c_names) (c_netOf := c_netOf) (c_isTold := c_isTold) (c_soFar := c_soFar) (c_state := c_state) (c_stuck := c_stuck) (c_dusty := c_dusty) σ (adT i).length hσ hs q1'.1 al hB hG (getT (stmtsL (adT i))) (by rw [stmtsT_CT _ _ _ q1']; exact acc.1) acc.2.1 acc.2.2 hE) (fun r hr => pc_bad (fun _ => pc_some hr))
    · rw [tI_le] at q
      have ee : (x2 + 1).toInt = i + 1 := by ((try simp only [tI_lt, tI_le, tI_eq, tI_add, tI_sub, tI_mul, tI_nat, Int32.reduceToInt, Int.reduceToNat, fe_0, fe_1, fe_2, fe_3, fe_4, fe_5]) <;> (try simp (disch := omega) only [tI_bm]) <;> omega)
      have e3 : x2 + 1 = Int32.ofNat (i + 1) := Int32.toInt_inj.mp (by rw [Int32.toInt_ofNat_of_lt (show i + 1 < 2 ^ 31 by omega)]; exact ee)
      have bl := bitO_len i (by omega)
      rw [bitO_eq]
      refine pc_bind (pc_ok (s_ops x2 i e2 (by omega) bitO c_size c_text (adB i) bitO_ok h (by omega))) (fun r4 q4 => pc_vlet ?_)
      rw [bit_eq i (by omega)] at q4
      exact m_adder_20 n _ _ _ _ _ _ _ _ _ _ _ _ _ _ _ _ _ _ _ _ _ _ _ _ _ _ _ _ _ σ m (i + 1) hs hσ h1 m1 hm e3 (by omega) q4 hG hE
set_option maxHeartbeats 400000 in
theorem m_adder3 (x1 : Int32) (c_size : Int32) (c_tokens : Int32) (c_at : Int32) (c_fault : Int32) (c_faultAt : Int32) (c_side : Int32) (c_fresh : Int32) (c_kept : Int32) (c_raceTick : Int32) (c_text : Nat → Int32) (c_tKind : Nat → Int32) (c_tPlace : Nat → Int32) (c_tSize : Nat → Int32) (c_tValue : Nat → Int64) (c_many : Nat → Int32) (c_nameSize : Nat → Int32) (c_one : Nat → Int32) (c_two : Nat → Int32) (c_kinds : Nat → Int32) (c_kindBits : Nat → Int32) (c_names : Nat → Int32) (c_netOf : Nat → Int32) (c_isTold : Nat → Int32) (c_soFar : Nat → Int32) (c_state : Nat → Int32) (c_stuck : Nat → Int32) (c_dusty : Nat → Int32) (σ m : Nat) (hσ : σ ≤ 1) (hs : c_side.toInt = σ) (hG : GB c_nameSize c_kinds) (e1 : x1 = Int32.ofNat m) (m1 : 1 ≤ m) (m7 : m ≤ 7) (hE : ∀ v c, okPin (getT (stmtsL (adT m))) v c = true → enS (getT (stmtsL (adT m))) v c < 954) : Pc (f_X11_adder x1 c_size c_tokens c_at c_fault c_faultAt c_side c_fresh c_kept c_raceTick c_text c_tKind c_tPlace c_tSize c_tValue c_many c_nameSize c_one c_two c_kinds c_kindBits c_names c_netOf c_isTold c_soFar c_state c_stuck c_dusty) (fun r => NETM (1 - σ) (getT (stmtsL (adT m))) r.2.2.2.2.2.2.2.2.2.2.2.2.2.2.2.2.2.2.2.2.2.2.1 r.2.2.2.2.2.2.2.2.2.2.2.2.2.2.2.2.2.2.2.2.2.2.2.1) := by
  unfold f_X11_adder
  have mx : x1.toInt = (m : Int) := by rw [e1]; exact Int32.toInt_ofNat_of_lt (by omega)
  refine pc_if (fun a => ?_) (fun a => pc_if (fun b => ?_) (fun b => ?_))
  · exfalso
    rw [tI_lt, l_1] at a
    omega
  · exact m_adder_20 FU x1 0 0 _ _ _ _ _ _ _ _ _ _ _ _ _ _ _ _ _ _ _ _ _ _ _ _ _ _ σ m 0 hs hσ e1 m1 m7 rfl (Nat.zero_le _) ⟨rfl, fun i hi => absurd hi (Nat.not_lt_zero _)⟩ hG hE
  · exfalso
    rw [tI_le, l_7] at b
    omega
/-! the other side stays as it was -/
set_option maxHeartbeats 400000 in
theorem NETM_fr {σ φ : Nat} {S : List StT} {n1 t1 n2 t2 : Nat → Int32} (hφ : φ = 1 - σ) (hσ : σ ≤ 1) (hF : FrN φ n1 t1 n2 t2) (hlt : ∀ q ∈ pnsOf S, enS S q.1 q.2.1 < 954) (hO : ∀ e, e < 954 → nuM σ n1 e < 954) (h : NETM σ S n1 t1) : NETM σ S n2 t2 := by
  have e : ∀ x, x < 954 → n2 (954 * σ + x) = n1 (954 * σ + x) ∧ t2 (954 * σ + x) = t1 (954 * σ + x) := fun x hx => hF _ (by omega)
  have en : ∀ x, x < 954 → nuM σ n2 x = nuM σ n1 x := fun x hx => by
    unfold nuM
    rw [(e x hx).1]
  obtain ⟨a, b, c⟩ := h
  refine ⟨PRT_cg hlt en a, fun x hx => ?_, fun x hx => ?_⟩
  · have := b x hx
    unfold itM at this ⊢
    rw [(e x hx).2]
    exact this
  · rw [en x hx, en _ (hO x hx)]
    exact c x hx
