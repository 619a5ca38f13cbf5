/-! whether the orders differ: the class -/
def DIF (S : List StT) (σ : Nat) (one two bits stuck dusty netOf : Nat → Int32) (sq : Nat → List Nat) (m T : Nat) (s0 : Nat → Int32) : Prop := ∃ o p a b, o < m ∧ p < m ∧ RUN S σ one two bits stuck dusty netOf (sq o) T s0 a ∧ RUN S σ one two bits stuck dusty netOf (sq p) T s0 b ∧ ¬ OEQ a b
def SAM (S : List StT) (σ : Nat) (one two bits stuck dusty netOf : Nat → Int32) (sq : Nat → List Nat) (m T : Nat) (s0 : Nat → Int32) : Prop := ∃ c, ∀ o, o < m → ∃ a, RUN S σ one two bits stuck dusty netOf (sq o) T s0 a ∧ OEQ a c
set_option maxHeartbeats 400000 in
theorem OEQ_s {a b : Nat → Int32} (h : OEQ a b) : OEQ b a := fun i hi => (h i hi).symm
set_option maxHeartbeats 400000 in
theorem OEQ_t {a b c : Nat → Int32} (h : OEQ a b) (k : OEQ b c) : OEQ a c := fun i hi => (h i hi).trans (k i hi)
set_option maxHeartbeats 400000 in
theorem DIF_SAM {S : List StT} {σ : Nat} (one two bits stuck dusty netOf : Nat → Int32) {sq sq2 : Nat → List Nat} {m T : Nat} {s0 t0 : Nat → Int32} (b0 : cnt 0 S ≤ 40) (b1 : cnt 1 S ≤ 24) (hk : ∀ r, nkS S r ≤ 6) (hq : Q345 s0 t0) (h12 : ∀ o, o < m → ∃ p, p < m ∧ sq o = sq2 p) (h1 : DIF S σ one two bits stuck dusty netOf sq m T s0) (h2 : SAM S σ one two bits stuck dusty netOf sq2 m T t0) : False := by
  obtain ⟨o, p, a, b, ho, hp, ra, rb, ne⟩ := h1
  obtain ⟨c, hc⟩ := h2
  obtain ⟨o', ho', eo⟩ := h12 o ho
  obtain ⟨p', hp', ep⟩ := h12 p hp
  obtain ⟨a', ra', ea⟩ := hc o' ho'
  obtain ⟨b', rb', eb⟩ := hc p' hp'
  rw [eo] at ra
  rw [ep] at rb
  have qa := OEQ_q (RUN_det one two bits stuck dusty netOf b0 b1 hk T ra ra' hq)
  have qb := OEQ_q (RUN_det one two bits stuck dusty netOf b0 b1 hk T rb rb' hq)
  exact ne (OEQ_t (OEQ_t qa ea) (OEQ_s (OEQ_t qb eb)))
set_option maxHeartbeats 400000 in
theorem x_dep_40 (c_due : Int64) (c_ahead_picked : Int64) (c_ahead_keys : Int32) (c_ahead_time : Int32) (c_ahead_counts : Nat → Int32) (c_ahead_positions : Nat → Int32) (c_p1_netlist_nets : Int32) (c_p1_netlist_parts : Nat → Int32) (c_p1_netlist_pickTime : Nat → Int32) (c_p1_netlist_dropTime : Nat → Int32) (c_p1_netlist_contacts : Nat → Int32) (c_p1_netlist_makes : Nat → Int32) (c_p1_netlist_period : Nat → Int32) (c_p1_netlist_onTime : Nat → Int32) (c_p1_netlist_netOf : Nat → Int32) (c_p1_wear_stuckAt : Nat → Int32) (c_p1_wear_dusty : Nat → Int32) {S : List StT} {σ : Nat} (one two kinds bits nM stuck dusty many : Nat → Int32) (side : Int32) (hC : CTX S σ c_p1_netlist_nets c_p1_netlist_parts c_p1_netlist_pickTime c_p1_netlist_dropTime c_p1_netlist_contacts c_p1_netlist_makes c_p1_netlist_period c_p1_netlist_onTime c_p1_netlist_netOf c_p1_wear_stuckAt c_p1_wear_dusty one two kinds bits nM stuck dusty many side) (n9 T : Nat) (hn9 : n9 < 5) (hT : T ≤ 100) (hl : (lst (btL c_due) 40).length = n9) (hhi : ∀ i, 40 ≤ i → btL c_due i = false) (s0 : Nat → Int32) (h1 : SR (nkS S) c_ahead_picked c_ahead_keys c_ahead_time c_ahead_counts c_ahead_positions s0) (h2 : CIV (cnt 0 S) c_p1_netlist_pickTime c_p1_netlist_dropTime (mB s0) (fun i => s0 (40 + i))) (c : Nat → Int32) (v0 : Int64) (hv : (∀ i, i < 40 → btL v0 i = mB c i) ∧ ∀ i, 40 ≤ i → btL v0 i = false) (hr0 : RUN S σ one two bits stuck dusty nM (sqX n9 (lst (btL c_due) 40) 0) T s0 c) : ∀ (n : Nat) (x2 : Int32) (x3 : Int32) (x4 : Int64) (x6 : Int32) (c_trial_picked : Int64) (c_trial_keys : Int32) (c_trial_time : Int32) (c_trial_counts : Nat → Int32) (c_trial_positions : Nat → Int32) (c_p1_ways_nets : Int32) (c_p1_ways_links : Int32) (c_p1_ways_firstLink : Nat → Int32) (c_p1_ways_nextLink : Nat → Int32) (c_p1_ways_leadsTo : Nat → Int32) (c_p1_ways_lets : Nat → Int32) (c_p1_ways_powers : Nat → Int32) (c_p1_ways_reached : Nat → Int32) (o : Nat), x2.toInt = T → x3.toInt = fct n9 → x4 = v0 → x6.toInt = o → 1 ≤ o → o ≤ fct n9 → (∀ p, p < o → ∃ a, RUN S σ one two bits stuck dusty nM (sqX n9 (lst (btL c_due) 40) p) T s0 a ∧ OEQ a c) → Pc (f_X4_dependsOnOrder_40 c_due c_ahead_picked c_ahead_keys c_ahead_time c_ahead_counts c_ahead_positions c_p1_netlist_nets c_p1_netlist_parts c_p1_netlist_pickTime c_p1_netlist_dropTime c_p1_netlist_contacts c_p1_netlist_makes c_p1_netlist_period c_p1_netlist_onTime c_p1_netlist_netOf c_p1_wear_stuckAt c_p1_wear_dusty n x2 x3 x4 x6 c_trial_picked c_trial_keys c_trial_time c_trial_counts c_trial_positions c_p1_ways_nets c_p1_ways_links c_p1_ways_firstLink c_p1_ways_nextLink c_p1_ways_leadsTo c_p1_ways_lets c_p1_ways_powers c_p1_ways_reached) (fun r => (r.1 = 1 ∧ DIF S σ one two bits stuck dusty nM (fun o => sqX n9 (lst (btL c_due) 40) o) (fct n9) T s0) ∨ (r.1 = 0 ∧ SAM S σ one two bits stuck dusty nM (fun o => sqX n9 (lst (btL c_due) 40) o) (fct n9) T s0))
  | 0, x2, x3, x4, x6, c_trial_picked, c_trial_keys, c_trial_time, c_trial_counts, c_trial_positions, c_p1_ways_nets, c_p1_ways_links, c_p1_ways_firstLink, c_p1_ways_nextLink, c_p1_ways_leadsTo, c_p1_ways_lets, c_p1_ways_powers, c_p1_ways_reached, o, k1, k2, k3, k4, k5, k6, k7 => pc_none
  | n + 1, x2, x3, x4, x6, c_trial_picked, c_trial_keys, c_trial_time, c_trial_counts, c_trial_positions, c_p1_ways_nets, c_p1_ways_links, c_p1_ways_firstLink, c_p1_ways_nextLink, c_p1_ways_leadsTo, c_p1_ways_lets, c_p1_ways_powers, c_p1_ways_reached, o, k1, k2, k3, k4, k5, k6, k7 => by
    unfold f_X4_dependsOnOrder_40
    subst k3
    have f24 : fct n9 ≤ 24 := by
      have : n9 = 0 ∨ n9 = 1 ∨ n9 = 2 ∨ n9 = 3 ∨ n9 = 4 := by omega
      rcases this with e | e | e | e | e <;> subst e <;> decide
    refine pc_if (fun a => pc_some (.inr ⟨rfl, c, fun p hp => k7 p ?_⟩)) (fun a => ?_)
    · rw [tI_le] at a; omega
    rw [tI_le] at a
    have e6 : (x6 + 1).toInt = ((o + 1 : Nat) : Int) := by ((try simp only [tI_lt, tI_le, tI_eq, tI_add, tI_sub, tI_mul, tI_nat, Int32.reduceToInt, Int.reduceToNat, fe_0, fe_1, fe_2, fe_3, fe_4, fe_5]) <;> (try simp (disch := omega) only [tI_bm]) <;> omega)
    refine pc_bind (x_behind x6 x2 _ _ _ _ _ _ _ _ _ _ _ _ _ _ _ _ _ _ _ _ _ _ _ _ _ _ _ _ _ _ one two kinds bits nM stuck dusty many side hC n9 T o hn9 hT k4 k1 hl hhi s0 h1 h2) (fun r1 q1 => ?_)
    obtain ⟨b, rb, b1, b2⟩ := q1
    refine pc_if (fun z => pc_vlet ?_) (fun z => pc_some (.inl ⟨rfl, o, 0, b, c, by omega, by omega, rb, hr0, fun q => z ((lgc _ _).mpr (btL_ext (fun i _ => ?_)))⟩))
    · have ze := (lgc _ _).mp z
      refine x_dep_40 c_due c_ahead_picked c_ahead_keys c_ahead_time c_ahead_counts c_ahead_positions c_p1_netlist_nets c_p1_netlist_parts c_p1_netlist_pickTime c_p1_netlist_dropTime c_p1_netlist_contacts c_p1_netlist_makes c_p1_netlist_period c_p1_netlist_onTime c_p1_netlist_netOf c_p1_wear_stuckAt c_p1_wear_dusty one two kinds bits nM stuck dusty many side hC n9 T hn9 hT hl hhi s0 h1 h2 c x4 hv hr0 n _ _ _ _ _ _ _ _ _ _ _ _ _ _ _ _ _ (o + 1) k1 k2 rfl e6 (by omega) (by omega) (fun p hp => ?_)
      by_cases y : p = o
      · subst y
        exact ⟨b, rb, fun i hi => by rw [← b1 i hi, ze, hv.1 i hi]⟩
      · exact k7 p (by omega)
    · by_cases y : i < 40
      · rw [b1 i y, hv.1 i y]; exact q i y
      · rw [b2 i (by omega), hv.2 i (by omega)]
set_option maxHeartbeats 400000 in
theorem x_dep_5 (c_due : Int64) (c_ahead_picked : Int64) (c_ahead_keys : Int32) (c_ahead_time : Int32) (c_ahead_counts : Nat → Int32) (c_ahead_positions : Nat → Int32) (c_p1_netlist_nets : Int32) (c_p1_netlist_parts : Nat → Int32) (c_p1_netlist_pickTime : Nat → Int32) (c_p1_netlist_dropTime : Nat → Int32) (c_p1_netlist_contacts : Nat → Int32) (c_p1_netlist_makes : Nat → Int32) (c_p1_netlist_period : Nat → Int32) (c_p1_netlist_onTime : Nat → Int32) (c_p1_netlist_netOf : Nat → Int32) (c_p1_wear_stuckAt : Nat → Int32) (c_p1_wear_dusty : Nat → Int32) {S : List StT} {σ : Nat} (one two kinds bits nM stuck dusty many : Nat → Int32) (side : Int32) (hC : CTX S σ c_p1_netlist_nets c_p1_netlist_parts c_p1_netlist_pickTime c_p1_netlist_dropTime c_p1_netlist_contacts c_p1_netlist_makes c_p1_netlist_period c_p1_netlist_onTime c_p1_netlist_netOf c_p1_wear_stuckAt c_p1_wear_dusty one two kinds bits nM stuck dusty many side) (n9 T : Nat) (hn9 : n9 < 5) (hn2 : 2 ≤ n9) (hT : T ≤ 100) (hl : (lst (btL c_due) 40).length = n9) (hhi : ∀ i, 40 ≤ i → btL c_due i = false) (s0 : Nat → Int32) (h1 : SR (nkS S) c_ahead_picked c_ahead_keys c_ahead_time c_ahead_counts c_ahead_positions s0) (h2 : CIV (cnt 0 S) c_p1_netlist_pickTime c_p1_netlist_dropTime (mB s0) (fun i => s0 (40 + i))) : ∀ (n : Nat) (x2 : Int32) (x3 : Int32) (x4 : Int32) (c_trial_picked : Int64) (c_trial_keys : Int32) (c_trial_time : Int32) (c_trial_counts : Nat → Int32) (c_trial_positions : Nat → Int32) (c_p1_ways_nets : Int32) (c_p1_ways_links : Int32) (c_p1_ways_firstLink : Nat → Int32) (c_p1_ways_nextLink : Nat → Int32) (c_p1_ways_leadsTo : Nat → Int32) (c_p1_ways_lets : Nat → Int32) (c_p1_ways_powers : Nat → Int32) (c_p1_ways_reached : Nat → Int32) (k : Nat), x2.toInt = T → x4.toInt = ((k + 1 : Nat) : Int) → 1 ≤ k → k ≤ n9 → x3.toInt = fct k → Pc (f_X4_dependsOnOrder_5 c_due c_ahead_picked c_ahead_keys c_ahead_time c_ahead_counts c_ahead_positions c_p1_netlist_nets c_p1_netlist_parts c_p1_netlist_pickTime c_p1_netlist_dropTime c_p1_netlist_contacts c_p1_netlist_makes c_p1_netlist_period c_p1_netlist_onTime c_p1_netlist_netOf c_p1_wear_stuckAt c_p1_wear_dusty n x2 x3 x4 c_trial_picked c_trial_keys c_trial_time c_trial_counts c_trial_positions c_p1_ways_nets c_p1_ways_links c_p1_ways_firstLink c_p1_ways_nextLink c_p1_ways_leadsTo c_p1_ways_lets c_p1_ways_powers c_p1_ways_reached) (fun r => (r.1 = 1 ∧ DIF S σ one two bits stuck dusty nM (fun o => sqX n9 (lst (btL c_due) 40) o) (fct n9) T s0) ∨ (r.1 = 0 ∧ SAM S σ one two bits stuck dusty nM (fun o => sqX n9 (lst (btL c_due) 40) o) (fct n9) T s0))
  | 0, x2, x3, x4, c_trial_picked, c_trial_keys, c_trial_time, c_trial_counts, c_trial_positions, c_p1_ways_nets, c_p1_ways_links, c_p1_ways_firstLink, c_p1_ways_nextLink, c_p1_ways_leadsTo, c_p1_ways_lets, c_p1_ways_powers, c_p1_ways_reached, k, k1, k2, k3, k4, k5 => pc_none
  | n + 1, x2, x3, x4, c_trial_picked, c_trial_keys, c_trial_time, c_trial_counts, c_trial_positions, c_p1_ways_nets, c_p1_ways_links, c_p1_ways_firstLink, c_p1_ways_nextLink, c_p1_ways_leadsTo, c_p1_ways_lets, c_p1_ways_powers, c_p1_ways_reached, k, k1, k2, k3, k4, k5 => by
    unfold f_X4_dependsOnOrder_5
    have cn : cntF (fun i => btL c_due i) 64 = n9 := by
      rw [← hl, ← lst_len]
      exact congrArg List.length (lst_hi 64 (by decide) (fun i h1 _ => hhi i h1))
    have f24 : fct k ≤ 24 := by
      have : k = 0 ∨ k = 1 ∨ k = 2 ∨ k = 3 ∨ k = 4 := by omega
      rcases this with e | e | e | e | e <;> subst e <;> decide
    refine pc_bind (x_bitCount c_due) (fun r1 q1 => ?_)
    rw [cn] at q1
    refine pc_if (fun a => ?_) (fun a => pc_vlet (pc_vlet ?_))
    · rw [tI_lt] at a
      have : k = n9 := by omega
      subst this
      refine pc_bind (x_behind (0 : Int32) x2 _ _ _ _ _ _ _ _ _ _ _ _ _ _ _ _ _ _ _ _ _ _ _ _ _ _ _ _ _ _ one two kinds bits nM stuck dusty many side hC k T 0 hn9 hT (by decide) k1 hl hhi s0 h1 h2) (fun r2 q2 => ?_)
      obtain ⟨c, rc, c1, c2⟩ := q2
      have f1 : 1 ≤ fct k := by
        have : k = 2 ∨ k = 3 ∨ k = 4 := by omega
        rcases this with e | e | e <;> subst e <;> decide
      refine x_dep_40 _ _ _ _ _ _ _ _ _ _ _ _ _ _ _ _ _ one two kinds bits nM stuck dusty many side hC k T hn9 hT hl hhi s0 h1 h2 c r2.1 ⟨c1, c2⟩ rc FU _ _ _ _ _ _ _ _ _ _ _ _ _ _ _ _ _ 1 k1 k5 rfl (by decide) (Nat.le_refl _) f1 (fun p hp => ?_)
      have : p = 0 := by omega
      subst this
      exact ⟨c, rc, fun _ _ => rfl⟩
    · rw [tI_lt] at a
      have e4 : (x4 + 1).toInt = ((k + 1 + 1 : Nat) : Int) := by ((try simp only [tI_lt, tI_le, tI_eq, tI_add, tI_sub, tI_mul, tI_nat, Int32.reduceToInt, Int.reduceToNat, fe_0, fe_1, fe_2, fe_3, fe_4, fe_5]) <;> (try simp (disch := omega) only [tI_bm]) <;> omega)
      have e3 : (x3 * x4).toInt = ((fct (k + 1) : Nat) : Int) := by
        have : k = 1 ∨ k = 2 ∨ k = 3 := by omega
        rcases this with e | e | e <;> subst e
        · have f : x3 = 1 := Int32.toInt_inj.mp (by rw [k5]; decide)
          have f2 : x4 = 2 := Int32.toInt_inj.mp (by rw [k2]; decide)
          rw [f, f2]
          decide
        · have f : x3 = 2 := Int32.toInt_inj.mp (by rw [k5]; decide)
          have f2 : x4 = 3 := Int32.toInt_inj.mp (by rw [k2]; decide)
          rw [f, f2]
          decide
        · have f : x3 = 6 := Int32.toInt_inj.mp (by rw [k5]; decide)
          have f2 : x4 = 4 := Int32.toInt_inj.mp (by rw [k2]; decide)
          rw [f, f2]
          decide
      exact x_dep_5 c_due c_ahead_picked c_ahead_keys c_ahead_time c_ahead_counts c_ahead_positions c_p1_netlist_nets c_p1_netlist_parts c_p1_netlist_pickTime c_p1_netlist_dropTime c_p1_netlist_contacts c_p1_netlist_makes c_p1_netlist_period c_p1_netlist_onTime c_p1_netlist_netOf c_p1_wear_stuckAt c_p1_wear_dusty one two kinds bits nM stuck dusty many side hC n9 T hn9 hn2 hT hl hhi s0 h1 h2 n _ _ _ _ _ _ _ _ _ _ _ _ _ _ _ _ (k + 1) k1 e4 (by omega) (by omega) e3
set_option maxHeartbeats 400000 in
theorem x_dep (x2 : Int32) (c_due : Int64) (c_ahead_picked : Int64) (c_ahead_keys : Int32) (c_ahead_time : Int32) (c_ahead_counts : Nat → Int32) (c_ahead_positions : Nat → Int32) (c_trial_picked : Int64) (c_trial_keys : Int32) (c_trial_time : Int32) (c_trial_counts : Nat → Int32) (c_trial_positions : Nat → Int32) (c_p1_netlist_nets : Int32) (c_p1_netlist_parts : Nat → Int32) (c_p1_netlist_pickTime : Nat → Int32) (c_p1_netlist_dropTime : Nat → Int32) (c_p1_netlist_contacts : Nat → Int32) (c_p1_netlist_makes : Nat → Int32) (c_p1_netlist_period : Nat → Int32) (c_p1_netlist_onTime : Nat → Int32) (c_p1_netlist_netOf : Nat → Int32) (c_p1_wear_stuckAt : Nat → Int32) (c_p1_wear_dusty : Nat → Int32) (c_p1_ways_nets : Int32) (c_p1_ways_links : Int32) (c_p1_ways_firstLink : Nat → Int32) (c_p1_ways_nextLink : Nat → Int32) (c_p1_ways_leadsTo : Nat → Int32) (c_p1_ways_lets : Nat → Int32) (c_p1_ways_powers : Nat → Int32) (c_p1_ways_reached : Nat → Int32) {S : List StT} {σ : Nat} (one two kinds bits nM stuck dusty many : Nat → Int32) (side : Int32) (hC : CTX S σ c_p1_netlist_nets c_p1_netlist_parts c_p1_netlist_pickTime c_p1_netlist_dropTime c_p1_netlist_contacts c_p1_netlist_makes c_p1_netlist_period c_p1_netlist_onTime c_p1_netlist_netOf c_p1_wear_stuckAt c_p1_wear_dusty one two kinds bits nM stuck dusty many side) (n9 T : Nat) (hn9 : n9 < 5) (hn2 : 2 ≤ n9) (hT : T ≤ 100) (hx2 : x2.toInt = T) (hl : (lst (btL c_due) 40).length = n9) (hhi : ∀ i, 40 ≤ i → btL c_due i = false) (s0 : Nat → Int32) (h1 : SR (nkS S) c_ahead_picked c_ahead_keys c_ahead_time c_ahead_counts c_ahead_positions s0) (h2 : CIV (cnt 0 S) c_p1_netlist_pickTime c_p1_netlist_dropTime (mB s0) (fun i => s0 (40 + i))) : Pc (f_X4_dependsOnOrder x2 c_due c_ahead_picked c_ahead_keys c_ahead_time c_ahead_counts c_ahead_positions c_trial_picked c_trial_keys c_trial_time c_trial_counts c_trial_positions c_p1_netlist_nets c_p1_netlist_parts c_p1_netlist_pickTime c_p1_netlist_dropTime c_p1_netlist_contacts c_p1_netlist_makes c_p1_netlist_period c_p1_netlist_onTime c_p1_netlist_netOf c_p1_wear_stuckAt c_p1_wear_dusty c_p1_ways_nets c_p1_ways_links c_p1_ways_firstLink c_p1_ways_nextLink c_p1_ways_leadsTo c_p1_ways_lets c_p1_ways_powers c_p1_ways_reached) (fun r => (r.1 = 1 ∧ DIF S σ one two bits stuck dusty nM (fun o => sqX n9 (lst (btL c_due) 40) o) (fct n9) T s0) ∨ (r.1 = 0 ∧ SAM S σ one two bits stuck dusty nM (fun o => sqX n9 (lst (btL c_due) 40) o) (fct n9) T s0)) := by
  unfold f_X4_dependsOnOrder
  exact x_dep_5 c_due c_ahead_picked c_ahead_keys c_ahead_time c_ahead_counts c_ahead_positions c_p1_netlist_nets c_p1_netlist_parts c_p1_netlist_pickTime c_p1_netlist_dropTime c_p1_netlist_contacts c_p1_netlist_makes c_p1_netlist_period c_p1_netlist_onTime c_p1_netlist_netOf c_p1_wear_stuckAt c_p1_wear_dusty one two kinds bits nM stuck dusty many side hC n9 T hn9 hn2 hT hl hhi s0 h1 h2 FU _ _ _ _ _ _ _ _ _ _ _ _ _ _ _ _ 1 hx2 (by decide) (Nat.le_refl _) (by omega) (show (1 : Int32).toInt = ((1 : Nat) : Int) from by decide)
/-! on by a TICK: those that were DUE -/
set_option maxHeartbeats 400000 in
theorem x_advance (c_due : Int64) (c_main_picked : Int64) (c_main_keys : Int32) (c_main_time : Int32) (c_main_counts : Nat → Int32) (c_main_positions : Nat → Int32) (c_ahead_picked : Int64) (c_ahead_keys : Int32) (c_ahead_time : Int32) (c_ahead_counts : Nat → Int32) (c_ahead_positions : Nat → Int32) (c_p1_netlist_nets : Int32) (c_p1_netlist_parts : Nat → Int32) (c_p1_netlist_pickTime : Nat → Int32) (c_p1_netlist_dropTime : Nat → Int32) (c_p1_netlist_contacts : Nat → Int32) (c_p1_netlist_makes : Nat → Int32) (c_p1_netlist_period : Nat → Int32) (c_p1_netlist_onTime : Nat → Int32) (c_p1_netlist_netOf : Nat → Int32) (c_p1_wear_stuckAt : Nat → Int32) (c_p1_wear_dusty : Nat → Int32) (c_p1_ways_nets : Int32) (c_p1_ways_links : Int32) (c_p1_ways_firstLink : Nat → Int32) (c_p1_ways_nextLink : Nat → Int32) (c_p1_ways_leadsTo : Nat → Int32) (c_p1_ways_lets : Nat → Int32) (c_p1_ways_powers : Nat → Int32) (c_p1_ways_reached : Nat → Int32) {S : List StT} {σ : Nat} (one two kinds bits nM stuck dusty many : Nat → Int32) (side : Int32) (hC : CTX S σ c_p1_netlist_nets c_p1_netlist_parts c_p1_netlist_pickTime c_p1_netlist_dropTime c_p1_netlist_contacts c_p1_netlist_makes c_p1_netlist_period c_p1_netlist_onTime c_p1_netlist_netOf c_p1_wear_stuckAt c_p1_wear_dusty one two kinds bits nM stuck dusty many side) (m : Nat → Int32) (h1 : SR (nkS S) c_main_picked c_main_keys c_main_time c_main_counts c_main_positions m) (h2 : CIV (cnt 0 S) c_p1_netlist_pickTime c_p1_netlist_dropTime (mB m) (fun i => m (40 + i))) : Pc (f_X4_advance c_due c_main_picked c_main_keys c_main_time c_main_counts c_main_positions c_ahead_picked c_ahead_keys c_ahead_time c_ahead_counts c_ahead_positions c_p1_netlist_nets c_p1_netlist_parts c_p1_netlist_pickTime c_p1_netlist_dropTime c_p1_netlist_contacts c_p1_netlist_makes c_p1_netlist_period c_p1_netlist_onTime c_p1_netlist_netOf c_p1_wear_stuckAt c_p1_wear_dusty c_p1_ways_nets c_p1_ways_links c_p1_ways_firstLink c_p1_ways_nextLink c_p1_ways_leadsTo c_p1_ways_lets c_p1_ways_powers c_p1_ways_reached) (fun r => ∃ m2, STP S σ one two bits stuck dusty nM (fun _ => false) (fun _ => false) m m2 ∧ SR (nkS S) r.2.2.1 c_main_keys r.2.2.2.1 r.2.2.2.2.1 r.2.2.2.2.2.1 m2 ∧ CIV (cnt 0 S) c_p1_netlist_pickTime c_p1_netlist_dropTime (mB m2) (fun i => m2 (40 + i)) ∧ SR (nkS S) r.2.2.2.2.2.2.1 r.2.2.2.2.2.2.2.1 r.2.2.2.2.2.2.2.2.1 r.2.2.2.2.2.2.2.2.2.1 r.2.2.2.2.2.2.2.2.2.2.1 m ∧ r.1.toInt = cntF (fun i => btL r.2.1 i) 64 ∧ (∀ i, i < 40 → btL r.2.1 i = (mB m i != mB m2 i)) ∧ ∀ i, 40 ≤ i → btL r.2.1 i = false) := by
  unfold f_X4_advance
  refine pc_bind (x_copy _ _ _ _ _ _ _ _ _ _) (fun r1 q1 => ?_)
  obtain ⟨c1, c2, c3, c4, c5⟩ := q1
  have sr : SR (nkS S) r1.1 r1.2.1 r1.2.2.1 r1.2.2.2.1 r1.2.2.2.2 m := by
    rw [c1, c2, c3]
    exact SR_cg h1 c4 c5 (fun _ _ => rfl)
  refine pc_bind (x_stepR _ _ _ _ _ _ _ _ _ _ _ _ _ _ _ _ _ _ _ _ _ _ _ _ _ _ one two kinds bits nM stuck dusty many side hC (fun _ => false) (fun _ => false) (fun i _ => ⟨fun q => by rw [l_m1] at q; omega, fun q => absurd q (by decide)⟩) (fun i _ => btL_0 i) m h1 h2) (fun r2 q2 => pc_vlet (pc_bind (x_bitCount _) (fun r4 q4 => pc_some ?_)))
  obtain ⟨m2, k1, k2, k3⟩ := q2
  refine ⟨m2, k1, k2, k3, sr, q4, fun i hi => ?_, fun i hi => ?_⟩
  · show btL (r1.1 ^^^ r2.2.2.2.2.2.2.2.2.1) i = _
    rw [btL_xor, (sr.1 i hi).2, (k2.1 i hi).2]
  · show btL (r1.1 ^^^ r2.2.2.2.2.2.2.2.2.1) i = _
    rw [btL_xor, sr.2.1 i hi, k2.2.1 i hi]
    rfl
