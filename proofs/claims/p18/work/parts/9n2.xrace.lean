/-! the class's races: members, and TICKS by an order -/
set_option maxHeartbeats 400000 in
theorem x_member_5 (x0' : Int64) : ∀ (n : Nat) (x0 : Int64) (x2 : Int32) (x3 : Int32) (x4 : Int32) (r : Nat), x0 = x0' → x4.toInt = r → r ≤ 40 → x3.toInt = cntF (btL x0') r → (0 ≤ x2.toInt → (cntF (btL x0') r : Int) ≤ x2.toInt) → Pc (f_X4_member_5 n x0 x2 x3 x4) (fun v => (∃ q, 0 ≤ x2.toInt ∧ (lst (btL x0') 40)[x2.toInt.toNat]? = some q ∧ v.toInt = q) ∨ (v = -1 ∧ (0 ≤ x2.toInt → (lst (btL x0') 40)[x2.toInt.toNat]? = none)))
  | 0, x0, x2, x3, x4, r, e0, h1, h2, h3, h4 => pc_none
  | n + 1, x0, x2, x3, x4, r, e0, h1, h2, h3, h4 => by
    unfold f_X4_member_5 f_X4_member_34
    subst e0
    have le := cntF_le (btL x0) r
    refine pc_if (fun a => pc_some (.inr ⟨rfl, fun q => ?_⟩)) (fun a => ?_)
    · rw [tI_le, l_40] at a
      have : r = 40 := by omega
      subst this
      have := h4 q
      exact List.getElem?_eq_none (by rw [lst_len]; omega)
    rw [tI_le, l_40] at a
    have e4 : (x4 + 1).toInt = ((r + 1 : Nat) : Int) := by ((try simp only [tI_lt, tI_le, tI_eq, tI_add, tI_sub, tI_mul, tI_nat, Int32.reduceToInt, Int.reduceToNat, fe_0, fe_1, fe_2, fe_3, fe_4, fe_5]) <;> (try simp (disch := omega) only [tI_bm]) <;> omega)
    have e3 : (x3 + 1).toInt = x3.toInt + 1 := by ((try simp only [tI_lt, tI_le, tI_eq, tI_add, tI_sub, tI_mul, tI_nat, Int32.reduceToInt, Int.reduceToNat, fe_0, fe_1, fe_2, fe_3, fe_4, fe_5]) <;> (try simp (disch := omega) only [tI_bm]) <;> omega)
    have bt := btL_shr x0 x4 r h1 (by omega)
    refine pc_if (fun b => pc_vlet ?_) (fun b => pc_if (fun c => pc_some (.inl ⟨r, ?_, ?_, h1⟩)) (fun c => pc_vlet (pc_vlet ?_)))
    · have z := bt.mp b
      have e : cntF (btL x0) (r + 1) = cntF (btL x0) r := by
        show cntF (btL x0) r + (if btL x0 r = true then 1 else 0) = _
        rw [if_neg (by rw [z]; decide)]; rfl
      exact x_member_5 x0 n _ _ _ _ (r + 1) rfl e4 (by omega) (by rw [e]; exact h3) (by rw [e]; exact h4)
    · rw [← c]; omega
    · have z : btL x0 r = true := by
        cases q : btL x0 r with
        | true => rfl
        | false => exact absurd (bt.mpr q) b
      rw [show x2.toInt.toNat = cntF (btL x0) r by rw [← c]; omega]
      exact lst_at _ r z 40 (by omega)
    · have z : btL x0 r = true := by
        cases q : btL x0 r with
        | true => rfl
        | false => exact absurd (bt.mpr q) b
      have e : cntF (btL x0) (r + 1) = cntF (btL x0) r + 1 := by
        show cntF (btL x0) r + (if btL x0 r = true then 1 else 0) = _
        rw [if_pos z]
      have c' : ¬ x3.toInt = x2.toInt := fun q => c (Int32.toInt_inj.mp q)
      exact x_member_5 x0 n _ _ _ _ (r + 1) rfl e4 (by omega) (by rw [e]; omega) (by rw [e]; omega)
set_option maxHeartbeats 400000 in
theorem x_member (x0 : Int64) (x2 : Int32) : Pc (f_X4_member x0 x2) (fun v => (∃ q, 0 ≤ x2.toInt ∧ (lst (btL x0) 40)[x2.toInt.toNat]? = some q ∧ v.toInt = q) ∨ (v = -1 ∧ (0 ≤ x2.toInt → (lst (btL x0) 40)[x2.toInt.toNat]? = none))) := by
  unfold f_X4_member
  exact x_member_5 x0 FU x0 x2 0 0 0 rfl (by decide) (by decide) (show (0 : Int32).toInt = ((0 : Nat) : Int) from by decide) (fun q => q)
/-! a step by an order -/
def CTX (S : List StT) (σ : Nat) (nets : Int32) (parts pick drop cont makes per on_ netOf stuckAt dustX : Nat → Int32) (one two kinds bits nM stuck dusty many : Nat → Int32) (side : Int32) : Prop := ∃ (toldNets : Int32) (names : Nat → Nat → Int64) (told : Nat → Int32) (nameSize nm isTold : Nat → Int32), allPin S (pnsOf S) ∧ IX S toldNets parts names pick drop cont makes per on_ ∧ IM S σ side many nameSize one two kinds bits nm nM ∧ NETX S toldNets nets told netOf ∧ NETM σ S nM isTold ∧ WR stuckAt dustX stuck dusty
def TQF (R : Nat) (nk : Nat → Nat) (E g w : Nat → Bool) (tp td s0 : Nat → Int32) (i : Nat) : Int32 := if i < 40 then (if i < R then b2 (stp (g i) (w i) (E i) (mB s0 i) (s0 (40 + i)) (tp i) (td i)).1 else s0 i) else if i < 80 then (if i - 40 < R then (stp (g (i - 40)) (w (i - 40)) (E (i - 40)) (mB s0 (i - 40)) (s0 (40 + (i - 40))) (tp (i - 40)) (td (i - 40))).2 else s0 i) else if i < 320 then (if (i - 80) / 6 < R ∧ (i - 80) % 6 < nk ((i - 80) / 6) then mvp (stp (g ((i - 80) / 6)) (w ((i - 80) / 6)) (E ((i - 80) / 6)) (mB s0 ((i - 80) / 6)) (s0 (40 + (i - 80) / 6)) (tp ((i - 80) / 6)) (td ((i - 80) / 6))).1 (s0 i) else s0 i) else s0 i
set_option maxHeartbeats 400000 in
theorem TQF_ok (R : Nat) (nk : Nat → Nat) (E g w : Nat → Bool) (tp td s0 : Nat → Int32) : TQP R nk E g w tp td s0 (TQF R nk E g w tp td s0) := by
  refine ⟨fun i hi => ?_, fun i hi => ?_, fun r d hr hd => ?_, fun i hi => ?_⟩
  · unfold TQF
    rw [if_pos hi]
  · unfold TQF
    rw [if_neg (by omega), if_pos (by omega), show 40 + i - 40 = i by omega]
  · unfold TQF
    rw [if_neg (by omega), if_neg (by omega), if_pos (by omega), show (80 + 6 * r + d - 80) / 6 = r by omega, show (80 + 6 * r + d - 80) % 6 = d by omega]
  · unfold TQF
    rw [if_neg (by omega), if_neg (by omega), if_neg (by omega)]
set_option maxHeartbeats 400000 in
theorem x_stepR (x2 : Int32) (x3 : Int64) (c_netlist_nets : Int32) (c_netlist_parts : Nat → Int32) (c_netlist_pickTime : Nat → Int32) (c_netlist_dropTime : Nat → Int32) (c_netlist_contacts : Nat → Int32) (c_netlist_makes : Nat → Int32) (c_netlist_period : Nat → Int32) (c_netlist_onTime : Nat → Int32) (c_netlist_netOf : Nat → Int32) (c_wear_stuckAt : Nat → Int32) (c_wear_dusty : Nat → Int32) (c_ways_nets : Int32) (c_ways_links : Int32) (c_ways_firstLink : Nat → Int32) (c_ways_nextLink : Nat → Int32) (c_ways_leadsTo : Nat → Int32) (c_ways_lets : Nat → Int32) (c_ways_powers : Nat → Int32) (c_ways_reached : Nat → Int32) (c_p1_picked : Int64) (c_p1_keys : Int32) (c_p1_time : Int32) (c_p1_counts : Nat → Int32) (c_p1_positions : Nat → Int32) {S : List StT} {σ : Nat} (one two kinds bits nM stuck dusty many : Nat → Int32) (side : Int32) (hC : CTX S σ c_netlist_nets c_netlist_parts c_netlist_pickTime c_netlist_dropTime c_netlist_contacts c_netlist_makes c_netlist_period c_netlist_onTime c_netlist_netOf c_wear_stuckAt c_wear_dusty one two kinds bits nM stuck dusty many side) (g w : Nat → Bool) (hg : ∀ i : Nat, i < 40 → (x2.toInt = i ↔ g i = true)) (hw : ∀ i, i < 40 → btL x3 i = w i) (m : Nat → Int32) (h1 : SR (nkS S) c_p1_picked c_p1_keys c_p1_time c_p1_counts c_p1_positions m) (h2 : CIV (cnt 0 S) c_netlist_pickTime c_netlist_dropTime (mB m) (fun i => m (40 + i))) : Pc (f_X2_step x2 x3 c_netlist_nets c_netlist_parts c_netlist_pickTime c_netlist_dropTime c_netlist_contacts c_netlist_makes c_netlist_period c_netlist_onTime c_netlist_netOf c_wear_stuckAt c_wear_dusty c_ways_nets c_ways_links c_ways_firstLink c_ways_nextLink c_ways_leadsTo c_ways_lets c_ways_powers c_ways_reached c_p1_picked c_p1_keys c_p1_time c_p1_counts c_p1_positions) (fun r => ∃ m2, STP S σ one two bits stuck dusty nM g w m m2 ∧ SR (nkS S) r.2.2.2.2.2.2.2.2.1 c_p1_keys r.2.2.2.2.2.2.2.2.2.1 r.2.2.2.2.2.2.2.2.2.2.1 r.2.2.2.2.2.2.2.2.2.2.2 m2 ∧ CIV (cnt 0 S) c_netlist_pickTime c_netlist_dropTime (mB m2) (fun i => m2 (40 + i))) := by
  obtain ⟨toldNets, names, told, nameSize, nm, isTold, hA, hI, hIM, hNX, hNM, hW⟩ := hC
  have hN := IXM_NLR hI hIM
  obtain ⟨-, -, m0, m1, -⟩ := GS_nk hI.1
  obtain ⟨E, hE⟩ := E_ex (ENS S (nuM σ nM) (JLT S σ one two bits stuck dusty (tk1 m)))
  have jl := JL_eq hN m0 m1 h1 hW (c_p1_time + 1) (tk1 m) (by unfold tk1; rw [upd_at, if_pos rfl, h1.2.2.2.1]) (fun i hi => by unfold tk1; rw [upd_at, if_neg (by omega)])
  refine pc_mono (x_tick1 S _ _ _ _ _ _ _ _ _ _ _ _ _ _ _ _ _ _ _ _ _ _ _ _ _ _ hA hI.1 hNX hNM jl.symm E g w (fun r _ => hE r) (CI_x hN m0 h1 h2) hg hw) (fun r hr => ?_)
  obtain ⟨t1, t2⟩ := hr
  have tq := TQF_ok (cnt 0 S) (nkS S) E g w (fun i => one (116 * σ + i)) (fun i => two (116 * σ + i)) (tk1 m)
  obtain ⟨d1, d2⟩ := DY_next hN m0 h1 h2 t2 tq
  exact ⟨_, ⟨E, fun r _ => hE r, tq⟩, by rw [t1]; exact d1, d2⟩
/-! the waiting ones, one less -/
set_option maxHeartbeats 400000 in
theorem lst_erase (D : Nat → Bool) (q : Nat) : ∀ (n k : Nat), (lst D n)[k]? = some q → lst (fun i => D i && !decide (i = q)) n = (lst D n).eraseIdx k
  | 0, k, h => by cases h
  | n + 1, k, h => by
    have m := lst_inj h
    unfold lst at h ⊢
    by_cases z : D n = true
    · rw [if_pos z] at h ⊢
      by_cases y : k < (lst D n).length
      · rw [List.getElem?_append_left y] at h
        have qn : ¬ n = q := fun w => by have := (lst_inj h).1; omega
        rw [if_pos (by rw [z, decide_eq_false qn]; rfl), lst_erase D q n k h, List.eraseIdx_append_of_lt_length y]
      · have qn : q = n := by
          rw [List.getElem?_append_right (by omega)] at h
          have e0 : k - (lst D n).length = 0 := by
            rcases Nat.eq_zero_or_pos (k - (lst D n).length) with v | v
            · exact v
            · rw [List.getElem?_eq_none (by rw [List.length_singleton]; omega)] at h; cases h
          rw [e0] at h
          injection h with h
          exact h.symm
        subst qn
        have kl : k = (lst D q).length := by rw [lst_len]; exact m.2.2.symm
        rw [if_neg (by rw [decide_eq_true (rfl : q = q)]; simp), List.eraseIdx_append_of_length_le (by omega), kl, Nat.sub_self]
        show _ = lst D q ++ []
        rw [List.append_nil]
        exact lst_cg q (fun i hi => by rw [decide_eq_false (show ¬ i = q by omega), Bool.not_false, Bool.and_true])
    · rw [if_neg z] at h ⊢
      rw [if_neg (by
        have z' : D n = false := by
          cases v : D n with
          | true => exact absurd v z
          | false => rfl
        rw [z']; simp)]
      exact lst_erase D q n k h
set_option maxHeartbeats 400000 in
theorem sqX_s {α : Type} (n : Nat) (l : List α) (o : Nat) (x : α) (h : l[o % l.length]? = some x) : sqX (n + 1) l o = x :: sqX n (l.eraseIdx (o % l.length)) (o / l.length) := by
  show (match l[o % l.length]? with
    | none => []
    | some x => x :: sqX n (l.eraseIdx (o % l.length)) (o / l.length)) = _
  rw [h]
/-! so many TICKS by an order, on the class's side -/
set_option maxHeartbeats 400000 in
theorem x_behind_32 (c_due : Int64) (c_ahead_picked : Int64) (c_ahead_keys : Int32) (c_ahead_time : Int32) (c_ahead_counts : Nat → Int32) (c_ahead_positions : Nat → Int32) (c_p1_netlist_nets : Int32) (c_p1_netlist_parts : Nat → Int32) (c_p1_netlist_pickTime : Nat → Int32) (c_p1_netlist_dropTime : Nat → Int32) (c_p1_netlist_contacts : Nat → Int32) (c_p1_netlist_makes : Nat → Int32) (c_p1_netlist_period : Nat → Int32) (c_p1_netlist_onTime : Nat → Int32) (c_p1_netlist_netOf : Nat → Int32) (c_p1_wear_stuckAt : Nat → Int32) (c_p1_wear_dusty : Nat → Int32) {S : List StT} {σ : Nat} (one two kinds bits nM stuck dusty many : Nat → Int32) (side : Int32) (hC : CTX S σ c_p1_netlist_nets c_p1_netlist_parts c_p1_netlist_pickTime c_p1_netlist_dropTime c_p1_netlist_contacts c_p1_netlist_makes c_p1_netlist_period c_p1_netlist_onTime c_p1_netlist_netOf c_p1_wear_stuckAt c_p1_wear_dusty one two kinds bits nM stuck dusty many side) (L : List Nat) (n9 T : Nat) (hL : L.length = n9) (hn9 : n9 < 5) (hT : T ≤ 100) (s0 : Nat → Int32) : ∀ (n : Nat) (x3 : Int32) (x4 : Int64) (x6 : Int32) (x7 : Int32) (x8 : Int32) (c_trial_picked : Int64) (c_trial_keys : Int32) (c_trial_time : Int32) (c_trial_counts : Nat → Int32) (c_trial_positions : Nat → Int32) (c_p1_ways_nets : Int32) (c_p1_ways_links : Int32) (c_p1_ways_firstLink : Nat → Int32) (c_p1_ways_nextLink : Nat → Int32) (c_p1_ways_leadsTo : Nat → Int32) (c_p1_ways_lets : Nat → Int32) (c_p1_ways_powers : Nat → Int32) (c_p1_ways_reached : Nat → Int32) (d o : Nat) (m : Nat → Int32), x3.toInt = T → x8.toInt = d → d ≤ T → x7.toInt = ((n9 - d : Nat) : Int) → x6.toInt = o → L.drop d = sqX (n9 - d) (lst (btL x4) 40) o → (lst (btL x4) 40).length = n9 - d → RUN S σ one two bits stuck dusty nM L d s0 m → SR (nkS S) c_trial_picked c_trial_keys c_trial_time c_trial_counts c_trial_positions m → CIV (cnt 0 S) c_p1_netlist_pickTime c_p1_netlist_dropTime (mB m) (fun i => m (40 + i)) → Pc (f_X4_pickedBehind_32 c_due c_ahead_picked c_ahead_keys c_ahead_time c_ahead_counts c_ahead_positions c_p1_netlist_nets c_p1_netlist_parts c_p1_netlist_pickTime c_p1_netlist_dropTime c_p1_netlist_contacts c_p1_netlist_makes c_p1_netlist_period c_p1_netlist_onTime c_p1_netlist_netOf c_p1_wear_stuckAt c_p1_wear_dusty n x3 x4 x6 x7 x8 c_trial_picked c_trial_keys c_trial_time c_trial_counts c_trial_positions c_p1_ways_nets c_p1_ways_links c_p1_ways_firstLink c_p1_ways_nextLink c_p1_ways_leadsTo c_p1_ways_lets c_p1_ways_powers c_p1_ways_reached) (fun r => ∃ a, RUN S σ one two bits stuck dusty nM L T s0 a ∧ (∀ i, i < 40 → btL r.1 i = mB a i) ∧ ∀ i, 40 ≤ i → btL r.1 i = false)
  | 0, x3, x4, x6, x7, x8, c_trial_picked, c_trial_keys, c_trial_time, c_trial_counts, c_trial_positions, c_p1_ways_nets, c_p1_ways_links, c_p1_ways_firstLink, c_p1_ways_nextLink, c_p1_ways_leadsTo, c_p1_ways_lets, c_p1_ways_powers, c_p1_ways_reached, d, o, m, h1, h2, h3, h4, h5, h6, h7, h8, h9, h10 => pc_none
  | n + 1, x3, x4, x6, x7, x8, c_trial_picked, c_trial_keys, c_trial_time, c_trial_counts, c_trial_positions, c_p1_ways_nets, c_p1_ways_links, c_p1_ways_firstLink, c_p1_ways_nextLink, c_p1_ways_leadsTo, c_p1_ways_lets, c_p1_ways_powers, c_p1_ways_reached, d, o, m, h1, h2, h3, h4, h5, h6, h7, h8, h9, h10 => by
    unfold f_X4_pickedBehind_32
    refine pc_if (fun a => pc_some ?_) (fun a => ?_)
    · rw [tI_le] at a
      have : d = T := by omega
      subst this
      exact ⟨m, h8, fun i hi => (h9.1 i hi).2, h9.2.1⟩
    rw [tI_le] at a
    have e8 : (x8 + 1).toInt = ((d + 1 : Nat) : Int) := by ((try simp only [tI_lt, tI_le, tI_eq, tI_add, tI_sub, tI_mul, tI_nat, Int32.reduceToInt, Int.reduceToNat, fe_0, fe_1, fe_2, fe_3, fe_4, fe_5]) <;> (try simp (disch := omega) only [tI_bm]) <;> omega)
    have wm : ∀ (L2 : List Nat) (y : Int64) (i : Nat), i < 40 → (∀ z, z ∈ L2 ↔ z ∈ lst (btL y) 40) → btL y i = decide (i ∈ L2) := fun L2 y i hi hz => by
      have m1 := hz i
      have m2 := lst_mem (btL y) i 40
      cases q : btL y i with
      | true => exact (decide_eq_true (m1.mpr (m2.mpr ⟨hi, q⟩))).symm
      | false => exact (decide_eq_false (fun v => by have := (m2.mp (m1.mp v)).2; rw [q] at this; exact absurd this (by decide))).symm
    refine pc_if (fun b => ?_) (fun b => pc_if (fun c => pc_none) (fun c => ?_))
    · rw [tI_le, l_0] at b
      have nd : n9 - d = 0 := by omega
      have l0 : lst (btL x4) 40 = [] := List.length_eq_zero_iff.mp (by omega)
      unfold f_X4_pickedBehind_81
      have dr : L.drop (d + 1) = [] := List.drop_eq_nil_of_le (by omega)
      refine pc_bind (x_stepR (-1) x4 _ _ _ _ _ _ _ _ _ _ _ _ _ _ _ _ _ _ _ _ _ _ _ _ one two kinds bits nM stuck dusty many side hC (gO L d) (wO L d) (fun i hi => ⟨fun q => by rw [l_m1] at q; omega, fun q => ?_⟩) (fun i hi => ?_) m h9 h10) (fun r1 q1 => pc_vlet ?_)
      · unfold gO at q
        rw [List.getElem?_eq_none (by omega)] at q
        exact absurd (of_decide_eq_true q) (by intro z; cases z)
      · unfold wO
        rw [dr]
        exact wm [] x4 i hi (fun z => by rw [l0])
      obtain ⟨m2, k1, k2, k3⟩ := q1
      have nd1 : n9 - (d + 1) = 0 := by omega
      exact x_behind_32 c_due c_ahead_picked c_ahead_keys c_ahead_time c_ahead_counts c_ahead_positions c_p1_netlist_nets c_p1_netlist_parts c_p1_netlist_pickTime c_p1_netlist_dropTime c_p1_netlist_contacts c_p1_netlist_makes c_p1_netlist_period c_p1_netlist_onTime c_p1_netlist_netOf c_p1_wear_stuckAt c_p1_wear_dusty one two kinds bits nM stuck dusty many side hC L n9 T hL hn9 hT s0 n _ _ _ _ _ _ _ _ _ _ _ _ _ _ _ _ _ _ (d + 1) o m2 h1 e8 (by omega) (by rw [nd1, h4, nd]) h5 (by rw [nd1, dr]; rfl) (by rw [nd1, l0]; rfl) ⟨m, h8, k1⟩ k2 k3
    · rw [tI_le, l_0] at b
      obtain ⟨j, ej⟩ : ∃ j, n9 - d = j + 1 := ⟨n9 - d - 1, by omega⟩
      have er : (xrem x6 x7).toInt = ((o % (n9 - d) : Nat) : Int) := by
        rw [tI_rem (by omega) (by omega), h5, h4]
        exact (Int.natCast_emod _ _).symm
      have ed : (x6 / x7).toInt = ((o / (n9 - d) : Nat) : Int) := by
        rw [tI_div (by omega) (by omega), h5, h4]
        exact (Int.natCast_ediv _ _).symm
      have ml : o % (n9 - d) < n9 - d := Nat.mod_lt _ (by omega)
      refine pc_bind (x_member _ _) (fun r2 q2 => pc_if (fun c => pc_none) (fun c => pc_vlet (pc_vlet (pc_vlet ?_))))
      rw [er, Int.toNat_natCast] at q2
      rcases q2 with ⟨q, -, qa, qb⟩ | ⟨-, qn⟩
      · have qi := lst_inj qa
        have e7 : (x7 + -1).toInt = ((n9 - (d + 1) : Nat) : Int) := by ((try simp only [tI_lt, tI_le, tI_eq, tI_add, tI_sub, tI_mul, tI_nat, Int32.reduceToInt, Int.reduceToNat, fe_0, fe_1, fe_2, fe_3, fe_4, fe_5]) <;> (try simp (disch := omega) only [tI_bm]) <;> omega)
        have le := lst_erase (btL x4) q 40 _ qa
        have bw : ∀ i, i < 40 → btL (x4 &&& (xlshl 1 r2 ^^^ -1)) i = (btL x4 i && !decide (i = q)) := fun i hi => by
          rw [btL_and, btL_xor, btL_shl1 r2 q qb (by omega), btL_m1, decide_eq_true (show i < 64 by omega)]
          cases decide (i = q) <;> rfl
        have l2 : lst (btL (x4 &&& (xlshl 1 r2 ^^^ -1))) 40 = (lst (btL x4) 40).eraseIdx (o % (n9 - d)) := by
          rw [← le]
          exact lst_cg 40 bw
        have qa' : (lst (btL x4) 40)[o % (lst (btL x4) 40).length]? = some q := by rw [h7]; exact qa
        have sq := sqX_s j (lst (btL x4) 40) o q qa'
        rw [h7] at sq
        rw [ej, sq] at h6
        have dr : L.drop (d + 1) = sqX j ((lst (btL x4) 40).eraseIdx (o % (n9 - d))) (o / (n9 - d)) := by
          rw [← List.drop_drop, h6]
          rfl
        have ld : L[d]? = some q := by
          have := congrArg (fun z => z[0]?) h6
          rw [List.getElem?_drop] at this
          exact this
        have jl : ((lst (btL x4) 40).eraseIdx (o % (n9 - d))).length = j := by
          rw [List.length_eraseIdx_of_lt (by omega), h7]
          omega
        have mem := (sqX_ok j _ (o / (n9 - d)) jl).2
        unfold f_X4_pickedBehind_81
        refine pc_bind (x_stepR r2 (x4 &&& (xlshl 1 r2 ^^^ -1)) _ _ _ _ _ _ _ _ _ _ _ _ _ _ _ _ _ _ _ _ _ _ _ _ one two kinds bits nM stuck dusty many side hC (gO L d) (wO L d) (fun i hi => ?_) (fun i hi => ?_) m h9 h10) (fun r1 q1 => pc_vlet ?_)
        · unfold gO
          rw [ld, qb]
          constructor
          · intro v
            exact decide_eq_true (by rw [show q = i by omega])
          · intro v
            rw [Option.some.inj (of_decide_eq_true v)]
        · unfold wO
          rw [dr]
          exact wm _ _ i hi (fun z => by rw [mem z, l2])
        obtain ⟨m2, k1, k2, k3⟩ := q1
        have nd1 : n9 - (d + 1) = j := by omega
        exact x_behind_32 c_due c_ahead_picked c_ahead_keys c_ahead_time c_ahead_counts c_ahead_positions c_p1_netlist_nets c_p1_netlist_parts c_p1_netlist_pickTime c_p1_netlist_dropTime c_p1_netlist_contacts c_p1_netlist_makes c_p1_netlist_period c_p1_netlist_onTime c_p1_netlist_netOf c_p1_wear_stuckAt c_p1_wear_dusty one two kinds bits nM stuck dusty many side hC L n9 T hL hn9 hT s0 n _ _ _ _ _ _ _ _ _ _ _ _ _ _ _ _ _ _ (d + 1) (o / (n9 - d)) m2 h1 e8 (by omega) e7 ed (by rw [nd1, dr, l2]) (by rw [nd1, l2]; exact jl) ⟨m, h8, k1⟩ k2 k3
      · exfalso
        have := qn (by omega)
        rw [List.getElem?_eq_getElem (by rw [h7]; exact ml)] at this
        cases this
set_option maxHeartbeats 400000 in
theorem x_behind (x2 : Int32) (x3 : Int32) (c_due : Int64) (c_ahead_picked : Int64) (c_ahead_keys : Int32) (c_ahead_time : Int32) (c_ahead_counts : Nat → Int32) (c_ahead_positions : Nat → Int32) (c_trial_picked : Int64) (c_trial_keys : Int32) (c_trial_time : Int32) (c_trial_counts : Nat → Int32) (c_trial_positions : Nat → Int32) (c_p1_netlist_nets : Int32) (c_p1_netlist_parts : Nat → Int32) (c_p1_netlist_pickTime : Nat → Int32) (c_p1_netlist_dropTime : Nat → Int32) (c_p1_netlist_contacts : Nat → Int32) (c_p1_netlist_makes : Nat → Int32) (c_p1_netlist_period : Nat → Int32) (c_p1_netlist_onTime : Nat → Int32) (c_p1_netlist_netOf : Nat → Int32) (c_p1_wear_stuckAt : Nat → Int32) (c_p1_wear_dusty : Nat → Int32) (c_p1_ways_nets : Int32) (c_p1_ways_links : Int32) (c_p1_ways_firstLink : Nat → Int32) (c_p1_ways_nextLink : Nat → Int32) (c_p1_ways_leadsTo : Nat → Int32) (c_p1_ways_lets : Nat → Int32) (c_p1_ways_powers : Nat → Int32) (c_p1_ways_reached : Nat → Int32) {S : List StT} {σ : Nat} (one two kinds bits nM stuck dusty many : Nat → Int32) (side : Int32) (hC : CTX S σ c_p1_netlist_nets c_p1_netlist_parts c_p1_netlist_pickTime c_p1_netlist_dropTime c_p1_netlist_contacts c_p1_netlist_makes c_p1_netlist_period c_p1_netlist_onTime c_p1_netlist_netOf c_p1_wear_stuckAt c_p1_wear_dusty one two kinds bits nM stuck dusty many side) (n9 T o : Nat) (hn9 : n9 < 5) (hT : T ≤ 100) (hx2 : x2.toInt = o) (hx3 : x3.toInt = T) (hl : (lst (btL c_due) 40).length = n9) (hhi : ∀ i, 40 ≤ i → btL c_due i = false) (s0 : Nat → Int32) (h1 : SR (nkS S) c_ahead_picked c_ahead_keys c_ahead_time c_ahead_counts c_ahead_positions s0) (h2 : CIV (cnt 0 S) c_p1_netlist_pickTime c_p1_netlist_dropTime (mB s0) (fun i => s0 (40 + i))) : Pc (f_X4_pickedBehind x2 x3 c_due c_ahead_picked c_ahead_keys c_ahead_time c_ahead_counts c_ahead_positions c_trial_picked c_trial_keys c_trial_time c_trial_counts c_trial_positions c_p1_netlist_nets c_p1_netlist_parts c_p1_netlist_pickTime c_p1_netlist_dropTime c_p1_netlist_contacts c_p1_netlist_makes c_p1_netlist_period c_p1_netlist_onTime c_p1_netlist_netOf c_p1_wear_stuckAt c_p1_wear_dusty c_p1_ways_nets c_p1_ways_links c_p1_ways_firstLink c_p1_ways_nextLink c_p1_ways_leadsTo c_p1_ways_lets c_p1_ways_powers c_p1_ways_reached) (fun r => ∃ a, RUN S σ one two bits stuck dusty nM (sqX n9 (lst (btL c_due) 40) o) T s0 a ∧ (∀ i, i < 40 → btL r.1 i = mB a i) ∧ ∀ i, 40 ≤ i → btL r.1 i = false) := by
  unfold f_X4_pickedBehind
  refine pc_bind (x_copy _ _ _ _ _ _ _ _ _ _) (fun r1 q1 => pc_bind (x_bitCount c_due) (fun r2 q2 => ?_))
  obtain ⟨c1, c2, c3, c4, c5⟩ := q1
  have cn : cntF (fun i => btL c_due i) 64 = n9 := by
    rw [← hl, ← lst_len]
    exact congrArg List.length (lst_hi 64 (by decide) (fun i h1 _ => hhi i h1))
  have sr : SR (nkS S) r1.1 r1.2.1 r1.2.2.1 r1.2.2.2.1 r1.2.2.2.2 s0 := by
    rw [c1, c2, c3]
    exact SR_cg h1 c4 c5 (fun _ _ => rfl)
  exact x_behind_32 _ _ _ _ _ _ _ _ _ _ _ _ _ _ _ _ _ one two kinds bits nM stuck dusty many side hC (sqX n9 (lst (btL c_due) 40) o) n9 T (sqX_ok n9 _ o hl).1 hn9 hT s0 FU _ _ _ _ _ _ _ _ _ _ _ _ _ _ _ _ _ _ 0 o s0 hx3 (by decide) (Nat.zero_le _) (by rw [q2, cn]; rfl) hx2 rfl hl (fun _ _ => rfl) sr h2
