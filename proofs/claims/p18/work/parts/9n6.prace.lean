/-! race, both sides -/
def RCQ (due : Int64) (onTick tick many : Int32) (coils : Nat → Int32) : Prop := onTick = tick ∧ (onTick = -1 ∨ (many.toInt = cntF (fun i => btL due i) 64 ∧ many.toInt ≤ 4 ∧ (∀ i, 40 ≤ i → btL due i = false) ∧ ∀ k r : Nat, (lst (btL due) 40)[k]? = some r → (coils k).toInt = r))
set_option maxHeartbeats 400000 in
theorem inc_I {x : Int32} {q : Nat} (h : x.toInt = q) (hq : q ≤ 1000) : (x + 1).toInt = ((q + 1 : Nat) : Int) := by ((try simp only [tI_lt, tI_le, tI_eq, tI_add, tI_sub, tI_mul, tI_nat, Int32.reduceToInt, Int.reduceToNat, fe_0, fe_1, fe_2, fe_3, fe_4, fe_5]) <;> (try simp (disch := omega) only [tI_bm]) <;> omega)
set_option maxHeartbeats 400000 in
theorem p_r180 (k37 : Int32 → Int32 → Int32 → Int32 → Int32 → Int32 → (Nat → Int32) → (Nat → Int32) → (Nat → Int32) → (Nat → Int32) → (Nat → Int32) → (Nat → Int32) → (Nat → Int32) → (Nat → Int32) → (Nat → Int32) → (Nat → Int32) → (Nat → Int32) → (Nat → Int32) → (Nat → Int32) → Option (Int32 × Int32 × Int32 × (Nat → Int32) × (Nat → Int32) × (Nat → Int32) × (Nat → Int32) × (Nat → Int32) × (Nat → Int32) × (Nat → Int32) × (Nat → Int32) × (Nat → Int32) × (Nat → Int32) × (Nat → Int32) × (Nat → Int32) × (Nat → Int32))) (c_side : Int32) (c_many : Nat → Int32) (c_one : Nat → Int32) (c_two : Nat → Int32) (c_kinds : Nat → Int32) (c_kindBits : Nat → Int32) (c_netOf : Nat → Int32) (c_stuck : Nat → Int32) (c_dusty : Nat → Int32) {α : Type} {o1 : Option α} {Rq} (n9 : Nat) (h4 : n9 ≤ 4) : ∀ (n : Nat) (x1 : Int32) (x2 : Int32) (x3 : Int32) (x4 : Int32) (x5 : Int32) (x6 : Int32) (c_raceTick : Int32) (c_raceMany : Int32) (c_state : Nat → Int32) (c_joined : Nat → Int32) (c_live : Nat → Int32) (c_ground : Nat → Int32) (c_part : Nat → Int32) (c_begun : Nat → Int32) (c_ahead : Nat → Int32) (c_due : Nat → Int32) (c_order : Nat → Int32) (c_picked : Nat → Int32) (c_raceCoils : Nat → Int32) (c_after : Nat → Int32) (c_used : Nat → Int32) (k : Nat), x5.toInt = n9 → x6.toInt = k → k ≤ n9 → (∀ j, j < k → c_raceCoils j = c_due j) → (∀ co : Nat → Int32, (∀ j, j < n9 → co j = c_due j) → P2 o1 (k37 x1 x2 x3 (x4 + 1) c_raceTick c_raceMany c_state c_joined c_live c_ground c_part c_begun c_ahead c_due c_order c_picked co c_after c_used) Rq) → P2 o1 (f_X11_race_180 k37 c_side c_many c_one c_two c_kinds c_kindBits c_netOf c_stuck c_dusty n x1 x2 x3 x4 x5 x6 c_raceTick c_raceMany c_state c_joined c_live c_ground c_part c_begun c_ahead c_due c_order c_picked c_raceCoils c_after c_used) Rq
  | 0, x1, x2, x3, x4, x5, x6, c_raceTick, c_raceMany, c_state, c_joined, c_live, c_ground, c_part, c_begun, c_ahead, c_due, c_order, c_picked, c_raceCoils, c_after, c_used, k, h1, h2, h3, h5, hk => p2_n2
  | n + 1, x1, x2, x3, x4, x5, x6, c_raceTick, c_raceMany, c_state, c_joined, c_live, c_ground, c_part, c_begun, c_ahead, c_due, c_order, c_picked, c_raceCoils, c_after, c_used, k, h1, h2, h3, h5, hk => by
    unfold f_X11_race_180 f_X11_race_207
    refine p2_if2 (fun a => p2_v2 (hk _ (fun j hj => h5 j ?_))) (fun a => ?_)
    · rw [tI_le] at a; omega
    rw [tI_le] at a
    have ek : x6.toNatClampNeg = k := by rw [tI_nat]; omega
    refine p2_b2 (fun _ => p2_v2 (p2_b2 (fun _ => p2_v2 (p2_v2 ?_))))
    rw [ek]
    refine p_r180 k37 c_side c_many c_one c_two c_kinds c_kindBits c_netOf c_stuck c_dusty n9 h4 n _ _ _ _ _ _ _ _ _ _ _ _ _ _ _ _ _ _ _ _ _ (k + 1) h1 (by ((try simp only [tI_lt, tI_le, tI_eq, tI_add, tI_sub, tI_mul, tI_nat, Int32.reduceToInt, Int.reduceToNat, fe_0, fe_1, fe_2, fe_3, fe_4, fe_5]) <;> (try simp (disch := omega) only [tI_bm]) <;> omega)) (by omega) (fun j hj => ?_) hk
    rw [upd_at]
    by_cases z : j = k
    · rw [if_pos z, z]
    · rw [if_neg z]; exact h5 j (by omega)
set_option maxHeartbeats 400000 in
theorem p_r70 (k37 : Int32 → Int32 → Int32 → Int32 → Int32 → Int32 → (Nat → Int32) → (Nat → Int32) → (Nat → Int32) → (Nat → Int32) → (Nat → Int32) → (Nat → Int32) → (Nat → Int32) → (Nat → Int32) → (Nat → Int32) → (Nat → Int32) → (Nat → Int32) → (Nat → Int32) → (Nat → Int32) → Option (Int32 × Int32 × Int32 × (Nat → Int32) × (Nat → Int32) × (Nat → Int32) × (Nat → Int32) × (Nat → Int32) × (Nat → Int32) × (Nat → Int32) × (Nat → Int32) × (Nat → Int32) × (Nat → Int32) × (Nat → Int32) × (Nat → Int32) × (Nat → Int32))) (c_side : Int32) (c_many : Nat → Int32) (c_one : Nat → Int32) (c_two : Nat → Int32) (c_kinds : Nat → Int32) (c_kindBits : Nat → Int32) (c_netOf : Nat → Int32) (c_stuck : Nat → Int32) (c_dusty : Nat → Int32) {S : List StT} {σ : Nat} (nets : Int32) (parts pick drop cont makes per on_ netX stuckX dustX : Nat → Int32) (hC : CTX S σ nets parts pick drop cont makes per on_ netX stuckX dustX c_one c_two c_kinds c_kindBits c_netOf c_stuck c_dusty c_many c_side) (R : Nat) (hs : c_side.toInt = (σ : Int)) (hσ : σ ≤ 1) (hR : (c_many (5 * σ + 0)).toInt = R) (hRS : R = cnt 0 S) (hR4 : R ≤ 40) {α : Type} {o1 : Option α} {Rq} (n9 T : Nat) (hT : T ≤ 100) : ∀ (n : Nat) (x1 : Int32) (x2 : Int32) (x3 : Int32) (x4 : Int32) (x5 : Int32) (x6 : Int32) (c_raceTick : Int32) (c_raceMany : Int32) (c_state : Nat → Int32) (c_joined : Nat → Int32) (c_live : Nat → Int32) (c_ground : Nat → Int32) (c_part : Nat → Int32) (c_begun : Nat → Int32) (c_ahead : Nat → Int32) (c_due : Nat → Int32) (c_order : Nat → Int32) (c_picked : Nat → Int32) (c_raceCoils : Nat → Int32) (c_after : Nat → Int32) (c_used : Nat → Int32) (k : Nat), n9 = cntF (fun r => !decide (c_state r = c_ahead r)) R → (x1 + 5 - x4).toInt = T → x6.toInt = k → k ≤ R → x5.toInt = cntF (fun r => !decide (c_state r = c_ahead r)) k → (∀ j, j < cntF (fun r => !decide (c_state r = c_ahead r)) k → (c_due j).toInt = (lst (fun r => !decide (c_state r = c_ahead r)) k).getD j 0) → (∀ r, r < 40 → c_ahead r = 0 ∨ c_ahead r = 1) → Z40 c_part → (∀ (y : Int32) (st jo li gr pa du og pi af us : Nat → Int32), y = (if x2 = 0 ∧ (n9 : Int) ≤ 4 then (0 : Int32) else 1) → (n9 < 2 ∨ 4 < n9 ∨ SAM S σ c_one c_two c_kindBits c_stuck c_dusty c_netOf (fun p => sqM n9 (lst (fun r => !decide (c_state r = c_ahead r)) R) p) (fct n9) T c_ahead) → Q345 st c_state → Z40 pa → P2 o1 (k37 x1 y x3 (x4 + 1) c_raceTick c_raceMany st jo li gr pa c_begun c_ahead du og pi c_raceCoils af us) Rq) → (∀ (y : Int32) (st jo li gr pa du og pi co af us : Nat → Int32), 2 ≤ n9 → n9 ≤ 4 → DIF S σ c_one c_two c_kindBits c_stuck c_dusty c_netOf (fun p => sqM n9 (lst (fun r => !decide (c_state r = c_ahead r)) R) p) (fct n9) T c_ahead → Q345 st c_state → Z40 pa → (∀ j, j < n9 → (co j).toInt = (lst (fun r => !decide (c_state r = c_ahead r)) R).getD j 0) → P2 o1 (k37 x1 y x4 (x4 + 1) c_raceTick (Int32.ofNat n9) st jo li gr pa c_begun c_ahead du og pi co af us) Rq) → P2 o1 (f_X11_race_70 k37 c_side c_many c_one c_two c_kinds c_kindBits c_netOf c_stuck c_dusty n x1 x2 x3 x4 x5 x6 c_raceTick c_raceMany c_state c_joined c_live c_ground c_part c_begun c_ahead c_due c_order c_picked c_raceCoils c_after c_used) Rq
  | 0, x1, x2, x3, x4, x5, x6, c_raceTick, c_raceMany, c_state, c_joined, c_live, c_ground, c_part, c_begun, c_ahead, c_due, c_order, c_picked, c_raceCoils, c_after, c_used, k, g0, g1, g2, g3, g4, g5, g6, g7, hA, hB => p2_n2
  | n + 1, x1, x2, x3, x4, x5, x6, c_raceTick, c_raceMany, c_state, c_joined, c_live, c_ground, c_part, c_begun, c_ahead, c_due, c_order, c_picked, c_raceCoils, c_after, c_used, k, g0, g1, g2, g3, g4, g5, g6, g7, hA, hB => by
    unfold f_X11_race_70 f_X11_race_132 f_X11_race_116
    have cle := cntF_le (fun r => !decide (c_state r = c_ahead r)) k
    refine p2_e2 (m_here _ _ _ hs hσ 0 (by decide) (by decide)) ?_
    refine p2_if2 (fun a => ?_) (fun a => ?_)
    · rw [tI_le] at a
      have ekR : k = R := by omega
      rw [ekR] at g4 g5
      rw [← g0] at g4 g5
      have go : ∀ y0 : Int32, y0 = (if x2 = 0 ∧ (n9 : Int) ≤ 4 then (0 : Int32) else 1) → P2 o1 (f_X11_race_137 k37 c_side c_many c_one c_two c_kinds c_kindBits c_netOf c_stuck c_dusty x1 x3 x4 x5 y0 c_raceTick c_raceMany c_state c_joined c_live c_ground c_part c_begun c_ahead c_due c_order c_picked c_raceCoils c_after c_used) Rq := fun y0 hy => by
        unfold f_X11_race_137
        refine p2_if2 (fun b => ?_) (fun b => p2_if2 (fun c => ?_) (fun c => ?_))
        · rw [tI_lt, l_2] at b
          unfold f_X11_race_207
          exact p2_v2 (hA y0 _ _ _ _ _ _ _ _ _ _ hy (.inl (by omega)) (fun _ _ => rfl) g7)
        · rw [tI_lt, l_4] at c
          unfold f_X11_race_207
          exact p2_v2 (hA y0 _ _ _ _ _ _ _ _ _ _ hy (.inr (.inl (by omega))) (fun _ _ => rfl) g7)
        · rw [tI_lt, l_2] at b
          rw [tI_lt, l_4] at c
          have n2 : 2 ≤ n9 := by omega
          have n4 : n9 ≤ 4 := by omega
          have lR : (lst (fun r => !decide (c_state r = c_ahead r)) R).length = n9 := by rw [lst_len, g0]
          have e5 : x5 = Int32.ofNat n9 := Int32.toInt_inj.mp (by rw [g4, Int32.toInt_ofNat_of_lt (by omega)])
          refine p2_r (m_xparts x5 ((x1 + (5 : Int32)) - x4) _ _ _ _ _ _ _ _ _ _ _ _ _ _ _ _ _ _ _ _ nets parts pick drop cont makes per on_ netX stuckX dustX hC R hs hσ hR hRS hR4 (lst (fun r => !decide (c_state r = c_ahead r)) R) n9 T lR n4 (DST_lst _ R) (fun r hr => by have := ((lst_mem (fun r => !decide (c_state r = c_ahead r)) r R).mp hr).1; omega) hT g5 g6 n2 g7 g4 g1) (fun r1 q1 => ?_)
          obtain ⟨q1, q2, q3⟩ := q1
          rcases q1 with ⟨z, q1⟩ | ⟨z, q1⟩
          · rw [z, if_neg (by decide)]
            refine p_r180 k37 c_side c_many c_one c_two c_kinds c_kindBits c_netOf c_stuck c_dusty n9 n4 FU _ _ _ _ _ _ _ _ _ _ _ _ _ _ _ _ _ _ _ _ _ 0 g4 (by decide) (Nat.zero_le _) (fun j hj => absurd hj (Nat.not_lt_zero _)) (fun co hco => ?_)
            rw [e5]
            exact hB y0 _ _ _ _ _ _ _ _ co _ _ n2 n4 q1 q2 q3 (fun j hj => by rw [hco j hj]; exact g5 j hj)
          · rw [z, if_pos rfl]
            unfold f_X11_race_207
            exact p2_v2 (hA y0 _ _ _ _ _ _ _ _ _ _ hy (.inr (.inr q1)) q2 q3)
      refine p2_if2 (fun b => p2_if2 (fun c => go 0 ?_) (fun c => go 1 ?_)) (fun b => go 1 ?_)
      · rw [tI_le, l_4] at c
        rw [if_pos ⟨b, by omega⟩]
      · rw [tI_le, l_4] at c
        rw [if_neg (fun q => c (by omega))]
      · rw [if_neg (fun q => b q.1)]
    · rw [tI_le] at a
      have e6 : (x6 + 1).toInt = ((k + 1 : Nat) : Int) := by ((try simp only [tI_lt, tI_le, tI_eq, tI_add, tI_sub, tI_mul, tI_nat, Int32.reduceToInt, Int.reduceToNat, fe_0, fe_1, fe_2, fe_3, fe_4, fe_5]) <;> (try simp (disch := omega) only [tI_bm]) <;> omega)
      have e0 : (0 + x6).toNatClampNeg = k := by rw [Int32.zero_add, tI_nat]; omega
      have cs := cntF_s (fun r => !decide (c_state r = c_ahead r)) k
      refine p2_b2 (fun _ => p2_b2 (fun _ => ?_))
      rw [e0]
      refine p2_if2 (fun z => p2_v2 ?_) (fun z => p2_b2 (fun _ => p2_v2 (p2_v2 (p2_v2 ?_))))
      · have dk : ¬ (!decide (c_state k = c_ahead k)) = true := by rw [decide_eq_true z]; decide
        rw [if_neg dk] at cs
        have ls : lst (fun r => !decide (c_state r = c_ahead r)) (k + 1) = lst (fun r => !decide (c_state r = c_ahead r)) k := by
          show (if (!decide (c_state k = c_ahead k)) = true then _ else _) = _
          rw [if_neg dk]
        exact p_r70 k37 c_side c_many c_one c_two c_kinds c_kindBits c_netOf c_stuck c_dusty nets parts pick drop cont makes per on_ netX stuckX dustX hC R hs hσ hR hRS hR4 n9 T hT n _ _ _ _ _ _ _ _ _ _ _ _ _ _ _ _ _ _ _ _ _ (k + 1) g0 g1 e6 (by omega) (by rw [cs]; exact g4) (by rw [cs, ls]; exact g5) g6 g7 hA hB
      · have dk : (!decide (c_state k = c_ahead k)) = true := by rw [decide_eq_false z]; decide
        rw [if_pos dk] at cs
        have ls : lst (fun r => !decide (c_state r = c_ahead r)) (k + 1) = lst (fun r => !decide (c_state r = c_ahead r)) k ++ [k] := by
          show (if (!decide (c_state k = c_ahead k)) = true then _ else _) = _
          rw [if_pos dk]
        have e5 : (x5 + 1).toInt = ((cntF (fun r => !decide (c_state r = c_ahead r)) k + 1 : Nat) : Int) := inc_I g4 (by omega)
        have i5 : x5.toNatClampNeg = cntF (fun r => !decide (c_state r = c_ahead r)) k := by rw [tI_nat]; omega
        rw [i5]
        refine p_r70 k37 c_side c_many c_one c_two c_kinds c_kindBits c_netOf c_stuck c_dusty nets parts pick drop cont makes per on_ netX stuckX dustX hC R hs hσ hR hRS hR4 n9 T hT n _ _ _ _ _ _ _ _ _ _ _ _ _ _ _ _ _ _ _ _ _ (k + 1) g0 g1 e6 (by omega) (by rw [cs]; exact e5) (fun j hj => ?_) g6 g7 hA hB
        rw [cs] at hj
        rw [ls, upd_at]
        have ll := lst_len (fun r => !decide (c_state r = c_ahead r)) k
        by_cases w : j = cntF (fun r => !decide (c_state r = c_ahead r)) k
        · rw [if_pos w, w, g2]
          have : (lst (fun r => !decide (c_state r = c_ahead r)) k ++ [k])[cntF (fun r => !decide (c_state r = c_ahead r)) k]? = some k := by
            rw [List.getElem?_append_right (by rw [ll]; exact Nat.le_refl _), ll, Nat.sub_self]
            rfl
          rw [getD_of this]
        · rw [if_neg w, g5 j (by omega)]
          have e := getD_at (l := lst (fun r => !decide (c_state r = c_ahead r)) k) (k := j) (by rw [ll]; omega)
          have : (lst (fun r => !decide (c_state r = c_ahead r)) k ++ [k])[j]? = some ((lst (fun r => !decide (c_state r = c_ahead r)) k).getD j 0) := by
            rw [List.getElem?_append_left (by rw [ll]; omega)]
            exact e
          rw [getD_of this]
/-! tick by tick -/
set_option maxHeartbeats 400000 in
theorem SR_ahead {nk : Nat → Nat} {p : Int64} {k t : Int32} {c po s s2 : Nat → Int32} (h : SR nk p k t c po s) (hq : Q345 s2 s) : SR nk p k t c po s2 := SR_cg h (fun _ _ => rfl) (fun _ _ => rfl) hq
set_option maxHeartbeats 400000 in
theorem mB_ne {s m : Nat → Int32} {i : Nat} (h1 : s i = 0 ∨ s i = 1) (h2 : m i = 0 ∨ m i = 1) : (mB m i != mB s i) = !decide (s i = m i) := by
  unfold mB
  rcases h1 with a | a <;> rcases h2 with b | b <;> rw [a, b] <;> decide
set_option maxHeartbeats 400000 in
theorem m_end37 (c_side : Int32) (c_many : Nat → Int32) (c_one : Nat → Int32) (c_two : Nat → Int32) (c_kinds : Nat → Int32) (c_kindBits : Nat → Int32) (c_netOf : Nat → Int32) (c_stuck : Nat → Int32) (c_dusty : Nat → Int32) : ∀ (n : Nat) (x1 : Int32) (x2 : Int32) (x3 : Int32) (x4 : Int32) (c_raceTick : Int32) (c_raceMany : Int32) (c_state : Nat → Int32) (c_joined : Nat → Int32) (c_live : Nat → Int32) (c_ground : Nat → Int32) (c_part : Nat → Int32) (c_begun : Nat → Int32) (c_ahead : Nat → Int32) (c_due : Nat → Int32) (c_order : Nat → Int32) (c_picked : Nat → Int32) (c_raceCoils : Nat → Int32) (c_after : Nat → Int32) (c_used : Nat → Int32), ¬ x3 = -1 → Pc (f_X11_race_37 c_side c_many c_one c_two c_kinds c_kindBits c_netOf c_stuck c_dusty n x1 x2 x3 x4 c_raceTick c_raceMany c_state c_joined c_live c_ground c_part c_begun c_ahead c_due c_order c_picked c_raceCoils c_after c_used) (fun rm => rm.1 = 1 ∧ rm.2.1 = x3 ∧ rm.2.2.1 = c_raceMany ∧ rm.2.2.2.2.2.2.2.2.2.2.2.2.2.1 = c_raceCoils)
  | 0, x1, x2, x3, x4, c_raceTick, c_raceMany, c_state, c_joined, c_live, c_ground, c_part, c_begun, c_ahead, c_due, c_order, c_picked, c_raceCoils, c_after, c_used, h => pc_none
  | n + 1, x1, x2, x3, x4, c_raceTick, c_raceMany, c_state, c_joined, c_live, c_ground, c_part, c_begun, c_ahead, c_due, c_order, c_picked, c_raceCoils, c_after, c_used, h => by
    unfold f_X11_race_37 f_X11_race_213
    have go : Pc (f_X11_race_213 c_side c_many c_one c_two c_kinds c_kindBits c_netOf c_stuck c_dusty x2 x3 c_raceTick c_raceMany c_state c_joined c_live c_ground c_part c_begun c_ahead c_due c_order c_picked c_raceCoils c_after c_used) (fun rm => rm.1 = 1 ∧ rm.2.1 = x3 ∧ rm.2.2.1 = c_raceMany ∧ rm.2.2.2.2.2.2.2.2.2.2.2.2.2.1 = c_raceCoils) := by
      unfold f_X11_race_213
      refine pc_any (fun r _ => ?_)
      rw [if_neg h]
      exact pc_some ⟨rfl, rfl, rfl, rfl⟩
    exact pc_if (fun _ => go) (fun _ => pc_if (fun w => absurd w h) (fun _ => go))
set_option maxHeartbeats 400000 in
theorem p_race_28 (c_machine_netlist_nets : Int32) (c_machine_netlist_parts : Nat → Int32) (c_machine_netlist_pickTime : Nat → Int32) (c_machine_netlist_dropTime : Nat → Int32) (c_machine_netlist_contacts : Nat → Int32) (c_machine_netlist_makes : Nat → Int32) (c_machine_netlist_period : Nat → Int32) (c_machine_netlist_onTime : Nat → Int32) (c_machine_netlist_netOf : Nat → Int32) (c_machine_wear_stuckAt : Nat → Int32) (c_machine_wear_dusty : Nat → Int32) (c_state_picked : Int64) (c_state_keys : Int32) (c_state_time : Int32) (c_state_counts : Nat → Int32) (c_state_positions : Nat → Int32) {S : List StT} {σ : Nat} (c_side : Int32) (c_many c_one c_two c_kinds c_kindBits c_netOf c_stuck c_dusty : Nat → Int32) (hCX : CTX S σ c_machine_netlist_nets c_machine_netlist_parts c_machine_netlist_pickTime c_machine_netlist_dropTime c_machine_netlist_contacts c_machine_netlist_makes c_machine_netlist_period c_machine_netlist_onTime c_machine_netlist_netOf c_machine_wear_stuckAt c_machine_wear_dusty c_one c_two c_kinds c_kindBits c_netOf c_stuck c_dusty c_many c_side) (hs : c_side.toInt = (σ : Int)) (hσ : σ ≤ 1) : ∀ (n : Nat) (x1 : Int32) (x2 : Int32) (x3 : Int32) (c_machine_ways_nets : Int32) (c_machine_ways_links : Int32) (c_machine_ways_firstLink : Nat → Int32) (c_machine_ways_nextLink : Nat → Int32) (c_machine_ways_leadsTo : Nat → Int32) (c_machine_ways_lets : Nat → Int32) (c_machine_ways_powers : Nat → Int32) (c_machine_ways_reached : Nat → Int32) (c_races_due : Int64) (c_races_onTick : Int32) (c_races_main_picked : Int64) (c_races_main_keys : Int32) (c_races_main_time : Int32) (c_races_main_counts : Nat → Int32) (c_races_main_positions : Nat → Int32) (c_races_ahead_picked : Int64) (c_races_ahead_keys : Int32) (c_races_ahead_time : Int32) (c_races_ahead_counts : Nat → Int32) (c_races_ahead_positions : Nat → Int32) (c_races_trial_picked : Int64) (c_races_trial_keys : Int32) (c_races_trial_time : Int32) (c_races_trial_counts : Nat → Int32) (c_races_trial_positions : Nat → Int32) (f : Nat) (z3 : Int32) (c_raceTick c_raceMany : Int32) (c_state c_joined c_live c_ground c_part c_begun c_ahead c_due c_order c_picked c_raceCoils c_after c_used : Nat → Int32), z3 = -1 → c_races_onTick = -1 → 0 ≤ x1.toInt → x1.toInt ≤ 16 → 1 ≤ x3.toInt → x3.toInt ≤ 17 → (x2 = 0 ∨ x2 = 1) → SR (nkS S) c_races_main_picked c_races_main_keys c_races_main_time c_races_main_counts c_races_main_positions c_state → CIV (cnt 0 S) c_machine_netlist_pickTime c_machine_netlist_dropTime (mB c_state) (fun i => c_state (40 + i)) → Z40 c_part → P2 (f_X10_race_28 c_machine_netlist_nets c_machine_netlist_parts c_machine_netlist_pickTime c_machine_netlist_dropTime c_machine_netlist_contacts c_machine_netlist_makes c_machine_netlist_period c_machine_netlist_onTime c_machine_netlist_netOf c_machine_wear_stuckAt c_machine_wear_dusty c_state_picked c_state_keys c_state_time c_state_counts c_state_positions n x1 x2 x3 c_machine_ways_nets c_machine_ways_links c_machine_ways_firstLink c_machine_ways_nextLink c_machine_ways_leadsTo c_machine_ways_lets c_machine_ways_powers c_machine_ways_reached c_races_due c_races_onTick c_races_main_picked c_races_main_keys c_races_main_time c_races_main_counts c_races_main_positions c_races_ahead_picked c_races_ahead_keys c_races_ahead_time c_races_ahead_counts c_races_ahead_positions c_races_trial_picked c_races_trial_keys c_races_trial_time c_races_trial_counts c_races_trial_positions) (f_X11_race_37 c_side c_many c_one c_two c_kinds c_kindBits c_netOf c_stuck c_dusty f x1 x2 z3 x3 c_raceTick c_raceMany c_state c_joined c_live c_ground c_part c_begun c_ahead c_due c_order c_picked c_raceCoils c_after c_used) (fun rx rm => rx.1 = rm.1 ∧ RCQ rx.2.2.2.2.2.2.2.2.2.1 rx.2.2.2.2.2.2.2.2.2.2.1 rm.2.1 rm.2.2.1 rm.2.2.2.2.2.2.2.2.2.2.2.2.2.1)
  | 0, x1, x2, x3, c_machine_ways_nets, c_machine_ways_links, c_machine_ways_firstLink, c_machine_ways_nextLink, c_machine_ways_leadsTo, c_machine_ways_lets, c_machine_ways_powers, c_machine_ways_reached, c_races_due, c_races_onTick, c_races_main_picked, c_races_main_keys, c_races_main_time, c_races_main_counts, c_races_main_positions, c_races_ahead_picked, c_races_ahead_keys, c_races_ahead_time, c_races_ahead_counts, c_races_ahead_positions, c_races_trial_picked, c_races_trial_keys, c_races_trial_time, c_races_trial_counts, c_races_trial_positions, f, z3, c_raceTick, c_raceMany, c_state, c_joined, c_live, c_ground, c_part, c_begun, c_ahead, c_due, c_order, c_picked, c_raceCoils, c_after, c_used, h3, h4, h5, h6, h7, h8, h9, h10, h11, h12 => p2_n1
  | n + 1, x1, x2, x3, c_machine_ways_nets, c_machine_ways_links, c_machine_ways_firstLink, c_machine_ways_nextLink, c_machine_ways_leadsTo, c_machine_ways_lets, c_machine_ways_powers, c_machine_ways_reached, c_races_due, c_races_onTick, c_races_main_picked, c_races_main_keys, c_races_main_time, c_races_main_counts, c_races_main_positions, c_races_ahead_picked, c_races_ahead_keys, c_races_ahead_time, c_races_ahead_counts, c_races_ahead_positions, c_races_trial_picked, c_races_trial_keys, c_races_trial_time, c_races_trial_counts, c_races_trial_positions, 0, z3, c_raceTick, c_raceMany, c_state, c_joined, c_live, c_ground, c_part, c_begun, c_ahead, c_due, c_order, c_picked, c_raceCoils, c_after, c_used, h3, h4, h5, h6, h7, h8, h9, h10, h11, h12 => p2_n2
  | n + 1, x1, x2, x3, c_machine_ways_nets, c_machine_ways_links, c_machine_ways_firstLink, c_machine_ways_nextLink, c_machine_ways_leadsTo, c_machine_ways_lets, c_machine_ways_powers, c_machine_ways_reached, c_races_due, c_races_onTick, c_races_main_picked, c_races_main_keys, c_races_main_time, c_races_main_counts, c_races_main_positions, c_races_ahead_picked, c_races_ahead_keys, c_races_ahead_time, c_races_ahead_counts, c_races_ahead_positions, c_races_trial_picked, c_races_trial_keys, c_races_trial_time, c_races_trial_counts, c_races_trial_positions, f + 1, z3, c_raceTick, c_raceMany, c_state, c_joined, c_live, c_ground, c_part, c_begun, c_ahead, c_due, c_order, c_picked, c_raceCoils, c_after, c_used, h3, h4, h5, h6, h7, h8, h9, h10, h11, h12 => by
    subst h3
    unfold f_X10_race_28 f_X11_race_37
    have hCX' := hCX
    obtain ⟨toldNets, names, told, nameSize, nm, isTold, hA, hI, hIM, hNX, hNM, hW⟩ := hCX'
    obtain ⟨kk, -, m0, m1, -⟩ := GS_nk hI.1
    have hcm := hIM.2.2.1 0 (by decide)
    have e3 : (x3 + 1).toInt = x3.toInt + 1 := by ((try simp only [tI_lt, tI_le, tI_eq, tI_add, tI_sub, tI_mul, tI_nat, Int32.reduceToInt, Int.reduceToNat, fe_0, fe_1, fe_2, fe_3, fe_4, fe_5]) <;> (try simp (disch := omega) only [tI_bm]) <;> omega)
    have eT : (x1 + 5 - x3).toInt = x1.toInt + 5 - x3.toInt := by ((try simp only [tI_lt, tI_le, tI_eq, tI_add, tI_sub, tI_mul, tI_nat, Int32.reduceToInt, Int.reduceToNat, fe_0, fe_1, fe_2, fe_3, fe_4, fe_5]) <;> (try simp (disch := omega) only [tI_bm]) <;> omega)
    have eT2 : (x1 + 4 - (x3 - 1)).toInt = x1.toInt + 5 - x3.toInt := by ((try simp only [tI_lt, tI_le, tI_eq, tI_add, tI_sub, tI_mul, tI_nat, Int32.reduceToInt, Int.reduceToNat, fe_0, fe_1, fe_2, fe_3, fe_4, fe_5]) <;> (try simp (disch := omega) only [tI_bm]) <;> omega)
    refine p2_ifs (fun a => ?_) (fun a => ?_)
    · unfold f_X11_race_213
      refine p2_r (m_copy _ _) (fun r1 q1 => ?_)
      rw [if_pos rfl]
      exact p2_ifs (fun _ => p2_some ⟨rfl, h4, .inl h4⟩) (fun _ => p2_some ⟨rfl, h4, .inl h4⟩)
    rw [tI_lt] at a
    rw [if_pos (rfl : (-1 : Int32) = -1)]
    refine p2_l (x_advance _ _ _ _ _ _ _ _ _ _ _ c_machine_netlist_nets c_machine_netlist_parts c_machine_netlist_pickTime c_machine_netlist_dropTime c_machine_netlist_contacts c_machine_netlist_makes c_machine_netlist_period c_machine_netlist_onTime c_machine_netlist_netOf c_machine_wear_stuckAt c_machine_wear_dusty _ _ _ _ _ _ _ _ c_one c_two c_kinds c_kindBits c_netOf c_stuck c_dusty c_many c_side hCX c_state h10 h11) (fun r1 q1 => ?_)
    obtain ⟨m2, t1, t2, t3, t4, t5, t6, t7⟩ := q1
    refine p2_r (m_copy _ _) (fun r8 q8 => p2_r (m_stepR _ _ _ _ _ _ _ _ _ _ _ _ _ _ c_machine_netlist_nets c_machine_netlist_parts c_machine_netlist_pickTime c_machine_netlist_dropTime c_machine_netlist_contacts c_machine_netlist_makes c_machine_netlist_period c_machine_netlist_onTime c_machine_netlist_netOf c_machine_wear_stuckAt c_machine_wear_dusty hCX (fun _ => false) (fun _ => false) (fun r hr => by rw [h12 r hr]; decide) (fun r hr => by rw [h12 r hr]; decide) (fun r hr => (h10.1 r hr).1)) (fun r9 q9 => ?_))
    have det := STP_det c_one c_two c_kindBits c_stuck c_dusty c_netOf m0 m1 kk q9 t1 (fun _ _ => rfl)
    have sr2 := SR_ahead t2 det
    have ci2 := CIV_cg m0 t3 det
    have sra := SR_ahead t4 (s2 := r8) q8
    have cia := CIV_cg m0 h11 q8
    -- those that were DUE
    have hi40 : ∀ r, r < 40 → btL r1.2.1 r = !decide (r9.1 r = r8 r) := fun r hr => by
      rw [t6 r hr, ← mB_ne ((sr2.1 r hr).1) ((sra.1 r hr).1)]
      unfold mB
      rw [det r (by omega), q8 r (by omega)]
    have hiR : ∀ r, cnt 0 S ≤ r → r < 40 → btL r1.2.1 r = false := fun r h1 h2 => by
      rw [hi40 r h2]
      have := (STP_01 c_one c_two c_kindBits c_stuck c_dusty c_netOf q9 (fun r hr => (h10.1 r hr).1)).2 r h1 h2
      rw [this, q8 r (by omega), decide_eq_true rfl]
      rfl
    have lst9 : lst (btL r1.2.1) 40 = lst (fun r => !decide (r9.1 r = r8 r)) (cnt 0 S) := by
      rw [lst_hi 40 m0 (fun i h1 h2 => hiR i h1 h2)]
      exact lst_cg _ (fun i hi => hi40 i (by omega))
    have cn9 : cntF (fun i => btL r1.2.1 i) 64 = cntF (fun r => !decide (r9.1 r = r8 r)) (cnt 0 S) := by
      rw [← lst_len, ← lst_len, ← lst9]
      exact congrArg List.length (lst_hi 64 (by decide) (fun i h1 _ => t7 i h1))
    generalize hn9 : cntF (fun r => !decide (r9.1 r = r8 r)) (cnt 0 S) = n9 at cn9
    rw [cn9] at t5
    have n40 : n9 ≤ 40 := by
      have := cntF_le (fun r => !decide (r9.1 r = r8 r)) (cnt 0 S)
      omega
    have ll : (lst (btL r1.2.1) 40).length = n9 := by rw [lst9, lst_len, hn9]
    obtain ⟨T, hT⟩ : ∃ T : Nat, x1.toInt + 5 - x3.toInt = T := ⟨(x1.toInt + 5 - x3.toInt).toNat, by omega⟩
    have T100 : T ≤ 100 := by omega
    -- what the reference comes to, whatever the class's rest
    have too : ∀ y1 : Int32, (y1 = 0 ∧ (n9 : Int) ≤ 4) ∨ (y1 = 1 ∧ ¬ (n9 : Int) ≤ 4) → (x2 ||| y1) = (if x2 = 0 ∧ (n9 : Int) ≤ 4 then (0 : Int32) else 1) ∧ ((x2 ||| y1) = 0 ∨ (x2 ||| y1) = 1) := fun y1 hy => by
      rcases hy with ⟨a, b⟩ | ⟨a, b⟩ <;> rcases h9 with c | c <;> subst a <;> subst c
      · rw [if_pos ⟨rfl, b⟩]; exact ⟨by decide, by decide⟩
      · rw [if_neg (fun q => absurd q.1 (by decide))]; exact ⟨by decide, by decide⟩
      · rw [if_neg (fun q => b q.2)]; exact ⟨by decide, by decide⟩
      · rw [if_neg (fun q => b q.2)]; exact ⟨by decide, by decide⟩
    have cont : ∀ y1 : Int32, (y1 = 0 ∧ (n9 : Int) ≤ 4) ∨ (y1 = 1 ∧ ¬ (n9 : Int) ≤ 4) → P2 (f_X10_race_58 (f_X10_race_28 c_machine_netlist_nets c_machine_netlist_parts c_machine_netlist_pickTime c_machine_netlist_dropTime c_machine_netlist_contacts c_machine_netlist_makes c_machine_netlist_period c_machine_netlist_onTime c_machine_netlist_netOf c_machine_wear_stuckAt c_machine_wear_dusty c_state_picked c_state_keys c_state_time c_state_counts c_state_positions n) c_machine_netlist_nets c_machine_netlist_parts c_machine_netlist_pickTime c_machine_netlist_dropTime c_machine_netlist_contacts c_machine_netlist_makes c_machine_netlist_period c_machine_netlist_onTime c_machine_netlist_netOf c_machine_wear_stuckAt c_machine_wear_dusty c_state_picked c_state_keys c_state_time c_state_counts c_state_positions x1 x3 r1.1 x2 y1 r1.2.2.2.2.2.2.2.2.2.2.2.1 r1.2.2.2.2.2.2.2.2.2.2.2.2.1 r1.2.2.2.2.2.2.2.2.2.2.2.2.2.1 r1.2.2.2.2.2.2.2.2.2.2.2.2.2.2.1 r1.2.2.2.2.2.2.2.2.2.2.2.2.2.2.2.1 r1.2.2.2.2.2.2.2.2.2.2.2.2.2.2.2.2.1 r1.2.2.2.2.2.2.2.2.2.2.2.2.2.2.2.2.2.1 r1.2.2.2.2.2.2.2.2.2.2.2.2.2.2.2.2.2.2 r1.2.1 c_races_onTick r1.2.2.1 c_races_main_keys r1.2.2.2.1 r1.2.2.2.2.1 r1.2.2.2.2.2.1 r1.2.2.2.2.2.2.1 r1.2.2.2.2.2.2.2.1 r1.2.2.2.2.2.2.2.2.1 r1.2.2.2.2.2.2.2.2.2.1 r1.2.2.2.2.2.2.2.2.2.2.1 c_races_trial_picked c_races_trial_keys c_races_trial_time c_races_trial_counts c_races_trial_positions) (f_X11_race_70 (f_X11_race_37 c_side c_many c_one c_two c_kinds c_kindBits c_netOf c_stuck c_dusty f) c_side c_many c_one c_two c_kinds c_kindBits c_netOf c_stuck c_dusty FU x1 x2 (-1 : Int32) x3 (0 : Int32) (0 : Int32) c_raceTick c_raceMany r9.1 r9.2.1 r9.2.2.1 r9.2.2.2 c_part c_begun r8 c_due c_order c_picked c_raceCoils c_after c_used) (fun rx rm => rx.1 = rm.1 ∧ RCQ rx.2.2.2.2.2.2.2.2.2.1 rx.2.2.2.2.2.2.2.2.2.2.1 rm.2.1 rm.2.2.1 rm.2.2.2.2.2.2.2.2.2.2.2.2.2.1) := fun y1 hy => by
      obtain ⟨w1, w2⟩ := too y1 hy
      unfold f_X10_race_58
      -- the class goes on, the reference has nothing found
      have goA : ∀ (u1 u2 : Int32) (u3 u4 u5 u6 u7 u8 : Nat → Int32) (tp : Int64) (tk tt : Int32) (tc tq : Nat → Int32) (y : Int32) (st jo li gr pa du og pi af us : Nat → Int32), y = (if x2 = 0 ∧ (n9 : Int) ≤ 4 then (0 : Int32) else 1) → Q345 st r9.1 → Z40 pa → P2 (f_X10_race_107 (f_X10_race_28 c_machine_netlist_nets c_machine_netlist_parts c_machine_netlist_pickTime c_machine_netlist_dropTime c_machine_netlist_contacts c_machine_netlist_makes c_machine_netlist_period c_machine_netlist_onTime c_machine_netlist_netOf c_machine_wear_stuckAt c_machine_wear_dusty c_state_picked c_state_keys c_state_time c_state_counts c_state_positions n) c_machine_netlist_nets c_machine_netlist_parts c_machine_netlist_pickTime c_machine_netlist_dropTime c_machine_netlist_contacts c_machine_netlist_makes c_machine_netlist_period c_machine_netlist_onTime c_machine_netlist_netOf c_machine_wear_stuckAt c_machine_wear_dusty c_state_picked c_state_keys c_state_time c_state_counts c_state_positions x1 (x2 ||| y1) x3 u1 u2 u3 u4 u5 u6 u7 u8 r1.2.1 c_races_onTick r1.2.2.1 c_races_main_keys r1.2.2.2.1 r1.2.2.2.2.1 r1.2.2.2.2.2.1 r1.2.2.2.2.2.2.1 r1.2.2.2.2.2.2.2.1 r1.2.2.2.2.2.2.2.2.1 r1.2.2.2.2.2.2.2.2.2.1 r1.2.2.2.2.2.2.2.2.2.2.1 tp tk tt tc tq) (f_X11_race_37 c_side c_many c_one c_two c_kinds c_kindBits c_netOf c_stuck c_dusty f x1 y (-1) (x3 + 1) c_raceTick c_raceMany st jo li gr pa c_begun r8 du og pi c_raceCoils af us) (fun rx rm => rx.1 = rm.1 ∧ RCQ rx.2.2.2.2.2.2.2.2.2.1 rx.2.2.2.2.2.2.2.2.2.2.1 rm.2.1 rm.2.2.1 rm.2.2.2.2.2.2.2.2.2.2.2.2.2.1) := fun u1 u2 u3 u4 u5 u6 u7 u8 tp tk tt tc tq y st jo li gr pa du og pi af us hy2 hq hz => by
        unfold f_X10_race_107
        rw [hy2, ← w1]
        refine p2_v1 ?_
        exact p_race_28 c_machine_netlist_nets c_machine_netlist_parts c_machine_netlist_pickTime c_machine_netlist_dropTime c_machine_netlist_contacts c_machine_netlist_makes c_machine_netlist_period c_machine_netlist_onTime c_machine_netlist_netOf c_machine_wear_stuckAt c_machine_wear_dusty c_state_picked c_state_keys c_state_time c_state_counts c_state_positions c_side c_many c_one c_two c_kinds c_kindBits c_netOf c_stuck c_dusty hCX hs hσ n _ _ _ _ _ _ _ _ _ _ _ _ _ _ _ _ _ _ _ _ _ _ _ _ _ _ _ _ f (-1) _ _ _ _ _ _ _ _ _ _ _ _ _ _ _ rfl h4 h5 h6 (by omega) (by omega) w2 (SR_ahead sr2 hq) (CIV_cg m0 ci2 hq) hz
      refine p2_v1 (p2_v1 (p2_if1 (fun b => ?_) (fun b => p2_if1 (fun c => ?_) (fun c => ?_))))
      · rw [tI_lt, l_2] at b
        refine p_r70 (f_X11_race_37 c_side c_many c_one c_two c_kinds c_kindBits c_netOf c_stuck c_dusty f) c_side c_many c_one c_two c_kinds c_kindBits c_netOf c_stuck c_dusty c_machine_netlist_nets c_machine_netlist_parts c_machine_netlist_pickTime c_machine_netlist_dropTime c_machine_netlist_contacts c_machine_netlist_makes c_machine_netlist_period c_machine_netlist_onTime c_machine_netlist_netOf c_machine_wear_stuckAt c_machine_wear_dusty hCX (cnt 0 S) hs hσ hcm rfl m0 n9 T T100 FU x1 x2 (-1) x3 0 0 c_raceTick c_raceMany r9.1 r9.2.1 r9.2.2.1 r9.2.2.2 c_part c_begun r8 c_due c_order c_picked c_raceCoils c_after c_used 0 hn9.symm (by rw [eT]; exact hT) (by decide) (Nat.zero_le _) (show (0 : Int32).toInt = ((0 : Nat) : Int) from by decide) (fun j hj => absurd hj (Nat.not_lt_zero _)) (fun r hr => (sra.1 r hr).1) h12 (fun y st jo li gr pa du og pi af us k1 k2 k3 k4 => goA _ _ _ _ _ _ _ _ _ _ _ _ _ y st jo li gr pa du og pi af us k1 k3 k4) (fun y st jo li gr pa du og pi co af us k1 k2 => ?_)
        exfalso; omega
      · rw [tI_lt, l_4] at c
        refine p_r70 (f_X11_race_37 c_side c_many c_one c_two c_kinds c_kindBits c_netOf c_stuck c_dusty f) c_side c_many c_one c_two c_kinds c_kindBits c_netOf c_stuck c_dusty c_machine_netlist_nets c_machine_netlist_parts c_machine_netlist_pickTime c_machine_netlist_dropTime c_machine_netlist_contacts c_machine_netlist_makes c_machine_netlist_period c_machine_netlist_onTime c_machine_netlist_netOf c_machine_wear_stuckAt c_machine_wear_dusty hCX (cnt 0 S) hs hσ hcm rfl m0 n9 T T100 FU x1 x2 (-1) x3 0 0 c_raceTick c_raceMany r9.1 r9.2.1 r9.2.2.1 r9.2.2.2 c_part c_begun r8 c_due c_order c_picked c_raceCoils c_after c_used 0 hn9.symm (by rw [eT]; exact hT) (by decide) (Nat.zero_le _) (show (0 : Int32).toInt = ((0 : Nat) : Int) from by decide) (fun j hj => absurd hj (Nat.not_lt_zero _)) (fun r hr => (sra.1 r hr).1) h12 (fun y st jo li gr pa du og pi af us k1 k2 k3 k4 => goA _ _ _ _ _ _ _ _ _ _ _ _ _ y st jo li gr pa du og pi af us k1 k3 k4) (fun y st jo li gr pa du og pi co af us k1 k2 => ?_)
        exfalso; omega
      · rw [tI_lt, l_2] at b
        rw [tI_lt, l_4] at c
        have n2 : 2 ≤ n9 := by omega
        have n5 : n9 < 5 := by omega
        have sm := sq_same (lst (btL r1.2.1) 40) (by omega)
        rw [ll] at sm
        refine p2_l (x_dep _ _ _ _ _ _ _ _ _ _ _ _ c_machine_netlist_nets c_machine_netlist_parts c_machine_netlist_pickTime c_machine_netlist_dropTime c_machine_netlist_contacts c_machine_netlist_makes c_machine_netlist_period c_machine_netlist_onTime c_machine_netlist_netOf c_machine_wear_stuckAt c_machine_wear_dusty _ _ _ _ _ _ _ _ c_one c_two c_kinds c_kindBits c_netOf c_stuck c_dusty c_many c_side hCX n9 T n5 n2 T100 (by rw [eT2]; exact hT) ll t7 c_state t4 h11) (fun r3 q3 => ?_)
        have q8' : Q345 c_state r8 := fun i hi => (q8 i hi).symm
        rcases q3 with ⟨z, q3⟩ | ⟨z, q3⟩
        · rw [z, if_neg (by decide)]
          unfold f_X4_keep
          refine p_r70 (f_X11_race_37 c_side c_many c_one c_two c_kinds c_kindBits c_netOf c_stuck c_dusty f) c_side c_many c_one c_two c_kinds c_kindBits c_netOf c_stuck c_dusty c_machine_netlist_nets c_machine_netlist_parts c_machine_netlist_pickTime c_machine_netlist_dropTime c_machine_netlist_contacts c_machine_netlist_makes c_machine_netlist_period c_machine_netlist_onTime c_machine_netlist_netOf c_machine_wear_stuckAt c_machine_wear_dusty hCX (cnt 0 S) hs hσ hcm rfl m0 n9 T T100 FU x1 x2 (-1) x3 0 0 c_raceTick c_raceMany r9.1 r9.2.1 r9.2.2.1 r9.2.2.2 c_part c_begun r8 c_due c_order c_picked c_raceCoils c_after c_used 0 hn9.symm (by rw [eT]; exact hT) (by decide) (Nat.zero_le _) (show (0 : Int32).toInt = ((0 : Nat) : Int) from by decide) (fun j hj => absurd hj (Nat.not_lt_zero _)) (fun r hr => (sra.1 r hr).1) h12 (fun y st jo li gr pa du og pi af us k1 k2 k3 k4 => ?_) (fun y st jo li gr pa du og pi co af us k1 k2 k5 k3 k4 k6 => ?_)
          · exfalso
            rcases k2 with k2 | k2 | k2
            · omega
            · omega
            · rw [← lst9] at k2
              exact DIF_SAM c_one c_two c_kindBits c_stuck c_dusty c_netOf m0 m1 kk q8' sm.1 q3 k2
          · -- both have found it
            have fin : RCQ r1.2.1 x3 x3 (Int32.ofNat n9) co := by
              have en : (Int32.ofNat n9).toInt = n9 := Int32.toInt_ofNat_of_lt (by omega)
              refine ⟨rfl, .inr ⟨by rw [en, cn9], by omega, t7, fun k r hkr => ?_⟩⟩
              have kl : k < n9 := by
                rcases Nat.lt_or_ge k n9 with q | q
                · exact q
                · rw [List.getElem?_eq_none (by omega)] at hkr; cases hkr
              rw [k6 k kl, ← lst9, getD_of hkr]
            have x3n : ¬ x3 = -1 := fun q => by rw [q, l_m1] at h7; omega
            refine p2_of (pc_some (pc_mono (m_end37 c_side c_many c_one c_two c_kinds c_kindBits c_netOf c_stuck c_dusty f _ _ _ _ _ _ _ _ _ _ _ _ _ _ _ _ _ _ _ x3n) (fun rm hm => ⟨hm.1.symm, ?_⟩)))
            rw [hm.2.1, hm.2.2.1, hm.2.2.2]
            exact fin
        · rw [z, if_pos rfl]
          refine p_r70 (f_X11_race_37 c_side c_many c_one c_two c_kinds c_kindBits c_netOf c_stuck c_dusty f) c_side c_many c_one c_two c_kinds c_kindBits c_netOf c_stuck c_dusty c_machine_netlist_nets c_machine_netlist_parts c_machine_netlist_pickTime c_machine_netlist_dropTime c_machine_netlist_contacts c_machine_netlist_makes c_machine_netlist_period c_machine_netlist_onTime c_machine_netlist_netOf c_machine_wear_stuckAt c_machine_wear_dusty hCX (cnt 0 S) hs hσ hcm rfl m0 n9 T T100 FU x1 x2 (-1) x3 0 0 c_raceTick c_raceMany r9.1 r9.2.1 r9.2.2.1 r9.2.2.2 c_part c_begun r8 c_due c_order c_picked c_raceCoils c_after c_used 0 hn9.symm (by rw [eT]; exact hT) (by decide) (Nat.zero_le _) (show (0 : Int32).toInt = ((0 : Nat) : Int) from by decide) (fun j hj => absurd hj (Nat.not_lt_zero _)) (fun r hr => (sra.1 r hr).1) h12 (fun y st jo li gr pa du og pi af us k1 k2 k3 k4 => goA _ _ _ _ _ _ _ _ _ _ _ _ _ y st jo li gr pa du og pi af us k1 k3 k4) (fun y st jo li gr pa du og pi co af us k1 k2 k5 k3 k4 k6 => ?_)
          exfalso
          rw [← lst9] at k5
          exact DIF_SAM c_one c_two c_kindBits c_stuck c_dusty c_netOf m0 m1 kk q8 sm.2 k5 q3
    refine p2_if1 (fun b => ?_) (fun b => ?_)
    · rw [tI_le, l_4] at b
      exact cont 0 (.inl ⟨rfl, by omega⟩)
    · rw [tI_le, l_4] at b
      exact cont 1 (.inr ⟨rfl, by omega⟩)
set_option maxHeartbeats 400000 in
theorem p_race (x1 : Int32) (c_machine_netlist_nets : Int32) (c_machine_netlist_parts : Nat → Int32) (c_machine_netlist_pickTime : Nat → Int32) (c_machine_netlist_dropTime : Nat → Int32) (c_machine_netlist_contacts : Nat → Int32) (c_machine_netlist_makes : Nat → Int32) (c_machine_netlist_period : Nat → Int32) (c_machine_netlist_onTime : Nat → Int32) (c_machine_netlist_netOf : Nat → Int32) (c_machine_wear_stuckAt : Nat → Int32) (c_machine_wear_dusty : Nat → Int32) (c_machine_ways_nets : Int32) (c_machine_ways_links : Int32) (c_machine_ways_firstLink : Nat → Int32) (c_machine_ways_nextLink : Nat → Int32) (c_machine_ways_leadsTo : Nat → Int32) (c_machine_ways_lets : Nat → Int32) (c_machine_ways_powers : Nat → Int32) (c_machine_ways_reached : Nat → Int32) (c_state_picked : Int64) (c_state_keys : Int32) (c_state_time : Int32) (c_state_counts : Nat → Int32) (c_state_positions : Nat → Int32) (c_races_due : Int64) (c_races_onTick : Int32) (c_races_main_picked : Int64) (c_races_main_keys : Int32) (c_races_main_time : Int32) (c_races_main_counts : Nat → Int32) (c_races_main_positions : Nat → Int32) (c_races_ahead_picked : Int64) (c_races_ahead_keys : Int32) (c_races_ahead_time : Int32) (c_races_ahead_counts : Nat → Int32) (c_races_ahead_positions : Nat → Int32) (c_races_trial_picked : Int64) (c_races_trial_keys : Int32) (c_races_trial_time : Int32) (c_races_trial_counts : Nat → Int32) (c_races_trial_positions : Nat → Int32) {S : List StT} {σ : Nat} (c_side : Int32) (c_many c_one c_two c_kinds c_kindBits c_netOf c_stuck c_dusty : Nat → Int32) (hCX : CTX S σ c_machine_netlist_nets c_machine_netlist_parts c_machine_netlist_pickTime c_machine_netlist_dropTime c_machine_netlist_contacts c_machine_netlist_makes c_machine_netlist_period c_machine_netlist_onTime c_machine_netlist_netOf c_machine_wear_stuckAt c_machine_wear_dusty c_one c_two c_kinds c_kindBits c_netOf c_stuck c_dusty c_many c_side) (hs : c_side.toInt = (σ : Int)) (hσ : σ ≤ 1) (c_raceTick c_raceMany : Int32) (c_state c_joined c_live c_ground c_part c_begun c_ahead c_due c_order c_picked c_raceCoils c_after c_used : Nat → Int32) (h1 : SR (nkS S) c_state_picked c_state_keys c_state_time c_state_counts c_state_positions c_state) (h2 : CIV (cnt 0 S) c_machine_netlist_pickTime c_machine_netlist_dropTime (mB c_state) (fun i => c_state (40 + i))) (hz : Z40 c_part) (hq : RCQ c_races_due c_races_onTick c_raceTick c_raceMany c_raceCoils) : P2 (f_X10_race x1 c_machine_netlist_nets c_machine_netlist_parts c_machine_netlist_pickTime c_machine_netlist_dropTime c_machine_netlist_contacts c_machine_netlist_makes c_machine_netlist_period c_machine_netlist_onTime c_machine_netlist_netOf c_machine_wear_stuckAt c_machine_wear_dusty c_machine_ways_nets c_machine_ways_links c_machine_ways_firstLink c_machine_ways_nextLink c_machine_ways_leadsTo c_machine_ways_lets c_machine_ways_powers c_machine_ways_reached c_state_picked c_state_keys c_state_time c_state_counts c_state_positions c_races_due c_races_onTick c_races_main_picked c_races_main_keys c_races_main_time c_races_main_counts c_races_main_positions c_races_ahead_picked c_races_ahead_keys c_races_ahead_time c_races_ahead_counts c_races_ahead_positions c_races_trial_picked c_races_trial_keys c_races_trial_time c_races_trial_counts c_races_trial_positions) (f_X11_race x1 c_side c_raceTick c_raceMany c_many c_one c_two c_kinds c_kindBits c_netOf c_state c_stuck c_dusty c_joined c_live c_ground c_part c_begun c_ahead c_due c_order c_picked c_raceCoils c_after c_used) (fun rx rm => rx.1 = rm.1 ∧ RCQ rx.2.2.2.2.2.2.2.2.2.1 rx.2.2.2.2.2.2.2.2.2.2.1 rm.2.1 rm.2.2.1 rm.2.2.2.2.2.2.2.2.2.2.2.2.2.1) := by
  unfold f_X10_race f_X11_race
  refine p2_ifs (fun _ => p2_some ⟨rfl, hq⟩) (fun a => p2_ifs (fun b => ?_) (fun _ => p2_some ⟨rfl, hq⟩))
  rw [tI_lt, l_0] at a
  rw [tI_le, l_16] at b
  have bg : Pc (f_X4_begin c_races_onTick c_races_main_picked c_races_main_keys c_races_main_time c_races_main_counts c_races_main_positions c_state_picked c_state_keys c_state_time c_state_counts c_state_positions) (fun r => r.1 = -1 ∧ SR (nkS S) r.2.1 r.2.2.1 r.2.2.2.1 r.2.2.2.2.1 r.2.2.2.2.2 c_state) := by
    unfold f_X4_begin
    refine pc_bind (x_copy _ _ _ _ _ _ _ _ _ _) (fun r1 q1 => pc_some ⟨rfl, ?_⟩)
    obtain ⟨c1, c2, c3, c4, c5⟩ := q1
    show SR (nkS S) r1.1 r1.2.1 r1.2.2.1 r1.2.2.2.1 r1.2.2.2.2 c_state
    rw [c1, c2, c3]
    exact SR_cg h1 c4 c5 (fun _ _ => rfl)
  refine p2_l bg (fun r1 q1 => p2_any2 (fun r2 _ => ?_))
  exact p_race_28 _ _ _ _ _ _ _ _ _ _ _ c_state_picked c_state_keys c_state_time c_state_counts c_state_positions c_side c_many c_one c_two c_kinds c_kindBits c_netOf c_stuck c_dusty hCX hs hσ FU _ _ _ _ _ _ _ _ _ _ _ _ _ _ _ _ _ _ _ _ _ _ _ _ _ _ _ _ FU (-1) _ _ _ _ _ _ _ _ _ _ _ _ _ _ _ rfl q1.1 (by omega) (by omega) (by decide) (by decide) (.inl rfl) q1.2 h2 hz
/-! raced -/
set_option maxHeartbeats 400000 in
theorem p_raced (x1 : Int32) (c_races_due : Int64) (c_races_onTick : Int32) (c_raceTick c_raceMany : Int32) (c_raceCoils : Nat → Int32) (hq : RCQ c_races_due c_races_onTick c_raceTick c_raceMany c_raceCoils) : P2 (f_X10_raced x1 c_races_due c_races_onTick) (f_X11_raced x1 c_raceTick c_raceMany c_raceCoils) (fun rx rm => rx = rm) := by
  unfold f_X10_raced f_X4_told f_X11_raced
  obtain ⟨e, hq⟩ := hq
  subst e
  refine p2_of ?_
  refine pc_any (fun r hr => pc_some ?_)
  have gen : P2 (if c_races_onTick = -1 then some (-1 : Int32) else if x1 = 0 then some c_races_onTick else if x1 = 1 then (f_J13_bitCount_95d88 c_races_due).bind fun r2 => some r2 else (f_X4_member c_races_due (x1 - 2)).bind fun r1 => some r1) (f_X11_raced x1 c_races_onTick c_raceMany c_raceCoils) (fun rx rm => rx = rm) := by
    unfold f_X11_raced
    refine p2_ifs (fun _ => p2_some rfl) (fun a => ?_)
    obtain ⟨q1, q2, q3, q4⟩ := hq.resolve_left a
    have ll : cntF (fun i => btL c_races_due i) 64 = (lst (btL c_races_due) 40).length := by
      rw [← lst_len]
      exact congrArg List.length (lst_hi 64 (by decide) (fun i h1 _ => q3 i h1))
    refine p2_if1 (fun b => p2_if2 (fun c => p2_if2 (fun _ => p2_some rfl) (fun w => absurd b w)) (fun c => ?_)) (fun b => p2_if1 (fun c => ?_) (fun c => ?_))
    · exfalso
      rw [b] at c
      exact c (by decide)
    · refine p2_if2 (fun d => p2_if2 (fun w => absurd w b) (fun _ => p2_if2 (fun _ => ?_) (fun w => absurd c w))) (fun d => ?_)
      · exact p2_l (x_bitCount c_races_due) (fun r2 h2 => p2_some (Int32.toInt_inj.mp (by rw [h2, q1])))
      · exfalso
        rw [c] at d
        exact d (by decide)
    · have b' : ¬ x1.toInt = 0 := fun q => b (Int32.toInt_inj.mp (by rw [q]; decide))
      have c' : ¬ x1.toInt = 1 := fun q => c (Int32.toInt_inj.mp (by rw [q]; decide))
      refine p2_l (x_member _ _) (fun r1 h1 => p2_if2 (fun d => p2_if2 (fun w => absurd w b) (fun _ => p2_if2 (fun w => absurd w c) (fun _ => ?_))) (fun d => p2_some ?_))
      · have d' : 0 ≤ x1.toInt := by rw [tI_le, l_0] at d; exact d
        have e2 : (x1 - 2).toInt = x1.toInt - 2 := by
          have := tI_rng x1
          ((try simp only [tI_lt, tI_le, tI_eq, tI_add, tI_sub, tI_mul, tI_nat, Int32.reduceToInt, Int.reduceToNat, fe_0, fe_1, fe_2, fe_3, fe_4, fe_5]) <;> (try simp (disch := omega) only [tI_bm]) <;> omega)
        refine p2_if2 (fun f => p2_some ?_) (fun f => p2_b2 (fun _ => p2_some ?_))
        · rw [tI_le, e2] at f
          rcases h1 with ⟨q, g1, g2, g3⟩ | ⟨g1, -⟩
          · rw [List.getElem?_eq_none (by rw [e2]; omega)] at g2; cases g2
          · exact g1
        · rw [tI_le, e2] at f
          have lt : (x1 - 2).toInt.toNat < (lst (btL c_races_due) 40).length := by rw [e2]; omega
          rcases h1 with ⟨q, g1, g2, g3⟩ | ⟨g1, g2⟩
          · exact Int32.toInt_inj.mp (by rw [g3, tI_nat, q4 _ _ g2])
          · have := g2 (by rw [e2]; omega)
            rw [List.getElem?_eq_getElem lt] at this
            cases this
      · have d' : x1.toInt < 0 := by rw [tI_le, l_0] at d; omega
        rcases h1 with ⟨q, g1, g2, g3⟩ | ⟨g1, -⟩
        · exfalso
          have l9 : (x1 - 2).toInt.toNat < (lst (btL c_races_due) 40).length := by
            rcases Nat.lt_or_ge (x1 - 2).toInt.toNat (lst (btL c_races_due) 40).length with q | q
            · exact q
            · rw [List.getElem?_eq_none q] at g2; cases g2
          have : (lst (btL c_races_due) 40).length ≤ 4 := by omega
          have g1' : (x1 - 2).toInt < 4 := by omega
          have := tI_rng x1
          have := tI_rng (x1 - 2)
          have es : (x1 - 2).toInt = (x1.toInt - 2 + 2147483648) % 4294967296 - 2147483648 := by
            rw [tI_sub, l_2]
          omega
        · exact g1
  exact fun b hb => gen r b hr hb
