/-! key, stuck, dust: both sides -/
set_option maxHeartbeats 400000 in
theorem p2_any1 {α β γ : Type} {o : Option γ} {f : γ → Option α} {o2 : Option β} {R : α → β → Prop} (k : ∀ r, o = some r → P2 (f r) o2 R) : P2 (o.bind f) o2 R := p2_l (P := fun r => o = some r) (fun _ e => e) k
set_option maxHeartbeats 400000 in
theorem p2_any2 {α β γ : Type} {o : Option γ} {f : γ → Option β} {o1 : Option α} {R : α → β → Prop} (k : ∀ r, o = some r → P2 o1 (f r) R) : P2 o1 (o.bind f) R := p2_r (P := fun r => o = some r) (fun _ e => e) k
set_option maxHeartbeats 400000 in
theorem p2_e2 {α β γ : Type} {o : Option γ} {a : γ} {f : γ → Option β} {o1 : Option α} {R : α → β → Prop} (e : o = some a) (k : P2 o1 (f a) R) : P2 o1 (o.bind f) R := by rw [e]; exact k
set_option maxHeartbeats 400000 in
theorem p2_e1 {α β γ : Type} {o : Option γ} {a : γ} {f : γ → Option α} {o2 : Option β} {R : α → β → Prop} (e : o = some a) (k : P2 (f a) o2 R) : P2 (o.bind f) o2 R := by rw [e]; exact k
set_option maxHeartbeats 400000 in
theorem hop3 {α β : Type} {o1 : Option α} {o2 : Option β} {P : α → Prop} {Q : β → Prop} {T R : α → β → Prop} (h1 : Ok o1 P) (h2 : Ok o2 Q) (h3 : P2 o1 o2 T) (k : ∀ a b, P a → Q b → T a b → R a b) : ∃ a b, o1 = some a ∧ o2 = some b ∧ R a b := by
  obtain ⟨a, e1, p⟩ := h1
  obtain ⟨b, e2, q⟩ := h2
  exact ⟨a, b, e1, e2, k a b p q (h3 a b e1 e2)⟩
set_option maxHeartbeats 400000 in
theorem m_here {σ : Nat} (x1 : Int32) (c_side : Int32) (c_many : Nat → Int32) (hs : c_side.toInt = (σ : Int)) (h1 : σ ≤ 1) (s : Nat) (hx : x1.toInt = s) (h5 : s < 5) : (f_X11_here x1 c_side c_many) = some (c_many (5 * σ + s)) := by
  rw [s_X11_here σ x1 c_side c_many hs h1 (by omega) (by omega), hx]
  rfl
set_option maxHeartbeats 400000 in
theorem p_key {nk : Nat → Nat} {picked : Int64} {time : Int32} {counts positions : Nat → Int32} (x1 : Int32) (x2 : Int32) (c_machine_netlist_parts : Nat → Int32) (c_state_keys : Int32) (c_side : Int32) (c_many c_state : Nat → Int32) {σ : Nat} (hs : c_side.toInt = (σ : Int)) (hσ : σ ≤ 1) (hp : (c_machine_netlist_parts 1).toInt = (c_many (5 * σ + 1)).toInt) (hb : (c_many (5 * σ + 1)).toInt ≤ 24) (h : SR nk picked c_state_keys time counts positions c_state) : P2 (f_X10_key x1 x2 c_machine_netlist_parts c_state_keys) (f_X11_key x1 x2 c_side c_many c_state) (fun rx rm => SR nk picked rx.2 time counts positions rm.2 ∧ ∀ i, i < 320 → rm.2 i = c_state i) := by
  unfold f_X10_key f_X11_key
  have e1 : (1 : Int32).toInt = 1 := by decide
  refine p2_l (pc_ok (so_X3_has _ _ _)) (fun r1 hr => ?_)
  unfold hasP at hr
  rw [e1, show (1 : Int).toNat = 1 from rfl] at hr
  have no : P2 (some ((0 : Int32), c_state_keys)) (some ((0 : Int32), c_state)) (fun rx rm => SR nk picked rx.2 time counts positions rm.2 ∧ ∀ i, i < 320 → rm.2 i = c_state i) := p2_some ⟨h, fun _ _ => rfl⟩
  rcases hr with ⟨e, hr⟩ | ⟨e, hr⟩
  · rw [e, if_pos rfl]
    refine p2_if2 (fun _ => no) (fun a => p2_e2 (m_here _ _ _ hs hσ 1 e1 (by decide)) (p2_if2 (fun b => ?_) (fun _ => no)))
    exfalso
    rw [tI_lt, l_0] at a
    rw [tI_lt] at b
    exact hr ⟨by decide, by decide, by omega, by omega⟩
  · rw [e, if_neg (by decide)]
    obtain ⟨-, -, h3, h4⟩ := hr
    refine p2_if2 (fun a => ?_) (fun a => p2_e2 (m_here _ _ _ hs hσ 1 e1 (by decide)) (p2_if2 (fun b => ?_) (fun b => ?_)))
    · exfalso
      rw [tI_lt, l_0] at a
      omega
    · have e320 : (320 + x1).toNatClampNeg = 320 + x1.toInt.toNat := by
        have : (320 + x1).toInt = 320 + x1.toInt := by ((try simp only [tI_lt, tI_le, tI_eq, tI_add, tI_sub, tI_mul, tI_nat, Int32.reduceToInt, Int.reduceToNat, fe_0, fe_1, fe_2, fe_3, fe_4, fe_5]) <;> (try simp (disch := omega) only [tI_bm]) <;> omega)
        rw [tI_nat, this]; omega
      have fr : ∀ (v : Int32) (i : Nat), i < 320 → upd c_state (320 + x1.toInt.toNat) v i = c_state i := fun v i hi => by rw [upd_at, if_neg (by omega)]
      have key := fun v d hv => SR_key h x1 x1.toInt.toNat (by omega) (by omega) v d hv
      rw [e320]
      refine p2_if1 (fun z => p2_v1 (p2_if2 (fun _ => p2_b2 (fun _ => p2_v2 (p2_some ⟨key 0 false rfl, fr 0⟩))) (fun w => absurd z w))) (fun z => p2_v1 (p2_if2 (fun w => absurd w z) (fun _ => p2_b2 (fun _ => p2_v2 (p2_some ⟨key 1 true rfl, fr 1⟩)))))
    · exfalso
      rw [tI_lt] at b
      omega
set_option maxHeartbeats 400000 in
theorem p_stuck (x1 : Int32) (x2 : Int32) (x3 : Int32) (c_machine_netlist_parts : Nat → Int32) (c_machine_netlist_contacts : Nat → Int32) (c_machine_wear_stuckAt : Nat → Int32) (c_side : Int32) (c_many c_kinds c_stuck : Nat → Int32) {σ : Nat} {one netOf dX dM : Nat → Int32} (hM : MI σ c_side c_many one c_kinds netOf) (hN : NS c_machine_netlist_parts c_machine_netlist_contacts) (hc : ∀ a b, hasC a b c_machine_netlist_parts c_machine_netlist_contacts ↔ mC σ a b c_many c_kinds) (h : WR c_machine_wear_stuckAt dX c_stuck dM) : P2 (f_X10_stuck x1 x2 x3 c_machine_netlist_parts c_machine_netlist_contacts c_machine_wear_stuckAt) (f_X11_stuck x1 x2 x3 c_side c_many c_kinds c_stuck) (fun rx rm => WR rx.2 dX rm.2 dM) := by
  unfold f_X10_stuck f_X11_stuck
  have no : P2 (some ((0 : Int32), c_machine_wear_stuckAt)) (some ((0 : Int32), c_stuck)) (fun rx rm => WR rx.2 dX rm.2 dM) := p2_some h
  refine p2_l (pc_ok (so_X3_hasContact _ _ _ _ hN.1.2)) (fun r1 h1 => p2_r (pc_ok (s_X11_isContact σ _ _ _ _ _ one netOf hM)) (fun r2 h2 => ?_))
  rcases h1 with ⟨a1, a2⟩ | ⟨a1, a2⟩ <;> rcases h2 with ⟨b1, b2⟩ | ⟨b1, b2⟩
  · rw [a1, b1, if_pos rfl, if_pos rfl]; exact no
  · exact absurd ((hc x1 x2).mpr b2) a2
  · exact absurd ((hc x1 x2).mp a2) b2
  · rw [a1, b1, if_neg (show ¬ (1 : Int32) = 0 from by decide), if_neg (show ¬ (1 : Int32) = 0 from by decide)]
    obtain ⟨c1, c2, c3, c4⟩ := a2
    have k1 := hN.1.2
    have k2 := (hN.2.2.2.2.2 x1.toInt.toNat (by omega)).2
    refine p2_if1 (fun z => p2_if2 (fun _ => no) (fun w => absurd z w)) (fun z => p2_if2 (fun w => absurd w z) (fun _ => p2_if1 (fun y => p2_if2 (fun _ => ?_) (fun w => absurd y w)) (fun y => p2_if2 (fun w => absurd w y) (fun _ => no))))
    refine p2_e1 (s_X10_contactNumber _ _) (p2_b1 (fun _ => p2_v1 (p2_b2 (fun _ => p2_v2 (p2_some ?_)))))
    have i1 : (x1 * 6 + x2 - 1).toInt = 6 * x1.toInt + x2.toInt - 1 := by ((try simp only [tI_lt, tI_le, tI_eq, tI_add, tI_sub, tI_mul, tI_nat, Int32.reduceToInt, Int.reduceToNat, fe_0, fe_1, fe_2, fe_3, fe_4, fe_5]) <;> (try simp (disch := omega) only [tI_bm]) <;> omega)
    have i2 : (6 * x1 + x2 - 1).toInt = 6 * x1.toInt + x2.toInt - 1 := by ((try simp only [tI_lt, tI_le, tI_eq, tI_add, tI_sub, tI_mul, tI_nat, Int32.reduceToInt, Int.reduceToNat, fe_0, fe_1, fe_2, fe_3, fe_4, fe_5]) <;> (try simp (disch := omega) only [tI_bm]) <;> omega)
    have e : (6 * x1 + x2 - 1).toNatClampNeg = (x1 * 6 + x2 - 1).toNatClampNeg := by rw [tI_nat, tI_nat, i1, i2]
    show WR (upd c_machine_wear_stuckAt (x1 * 6 + x2 - 1).toNatClampNeg x3) dX (upd c_stuck (6 * x1 + x2 - 1).toNatClampNeg x3) dM
    rw [e]
    exact WR_stuck h _ _
set_option maxHeartbeats 400000 in
theorem p_dust (x1 : Int32) (x2 : Int32) (x3 : Int32) (c_machine_netlist_parts : Nat → Int32) (c_machine_netlist_contacts : Nat → Int32) (c_machine_wear_dusty : Nat → Int32) (c_side : Int32) (c_many c_kinds c_dusty : Nat → Int32) {σ : Nat} {one netOf sX sM : Nat → Int32} (hM : MI σ c_side c_many one c_kinds netOf) (hN : NS c_machine_netlist_parts c_machine_netlist_contacts) (hc : ∀ a b, hasC a b c_machine_netlist_parts c_machine_netlist_contacts ↔ mC σ a b c_many c_kinds) (h : WR sX c_machine_wear_dusty sM c_dusty) : P2 (f_X10_dust x1 x2 x3 c_machine_netlist_parts c_machine_netlist_contacts c_machine_wear_dusty) (f_X11_dust x1 x2 x3 c_side c_many c_kinds c_dusty) (fun rx rm => WR sX rx.2 sM rm.2) := by
  unfold f_X10_dust f_X11_dust
  have no : P2 (some ((0 : Int32), c_machine_wear_dusty)) (some ((0 : Int32), c_dusty)) (fun rx rm => WR sX rx.2 sM rm.2) := p2_some h
  refine p2_l (pc_ok (so_X3_hasContact _ _ _ _ hN.1.2)) (fun r1 h1 => p2_r (pc_ok (s_X11_isContact σ _ _ _ _ _ one netOf hM)) (fun r2 h2 => ?_))
  rcases h1 with ⟨a1, a2⟩ | ⟨a1, a2⟩ <;> rcases h2 with ⟨b1, b2⟩ | ⟨b1, b2⟩
  · rw [a1, b1, if_pos rfl, if_pos rfl]; exact no
  · exact absurd ((hc x1 x2).mpr b2) a2
  · exact absurd ((hc x1 x2).mp a2) b2
  · rw [a1, b1, if_neg (show ¬ (1 : Int32) = 0 from by decide), if_neg (show ¬ (1 : Int32) = 0 from by decide)]
    obtain ⟨c1, c2, c3, c4⟩ := a2
    have k1 := hN.1.2
    have k2 := (hN.2.2.2.2.2 x1.toInt.toNat (by omega)).2
    refine p2_e1 (s_X10_contactNumber _ _) (p2_b1 (fun _ => p2_v1 (p2_b2 (fun _ => p2_v2 (p2_some ?_)))))
    have i1 : (x1 * 6 + x2 - 1).toInt = 6 * x1.toInt + x2.toInt - 1 := by ((try simp only [tI_lt, tI_le, tI_eq, tI_add, tI_sub, tI_mul, tI_nat, Int32.reduceToInt, Int.reduceToNat, fe_0, fe_1, fe_2, fe_3, fe_4, fe_5]) <;> (try simp (disch := omega) only [tI_bm]) <;> omega)
    have i2 : (6 * x1 + x2 - 1).toInt = 6 * x1.toInt + x2.toInt - 1 := by ((try simp only [tI_lt, tI_le, tI_eq, tI_add, tI_sub, tI_mul, tI_nat, Int32.reduceToInt, Int.reduceToNat, fe_0, fe_1, fe_2, fe_3, fe_4, fe_5]) <;> (try simp (disch := omega) only [tI_bm]) <;> omega)
    have e : (6 * x1 + x2 - 1).toNatClampNeg = (x1 * 6 + x2 - 1).toNatClampNeg := by rw [tI_nat, tI_nat, i1, i2]
    show WR sX (upd c_machine_wear_dusty (x1 * 6 + x2 - 1).toNatClampNeg _) sM (upd c_dusty (6 * x1 + x2 - 1).toNatClampNeg _)
    rw [e]
    exact WR_dust h _ _
