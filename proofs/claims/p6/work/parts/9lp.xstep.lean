/-! a TICK on the class's side -/
def stp (g w E p : Bool) (c tp td : Int32) : Bool × Int32 := if g = true then (!p, 0) else if w = true then (p, c) else if E = p then (p, 0) else if c + 1 = (if p = true then td else tp) then (!p, 0) else (p, c + 1)
def mvp (p : Bool) (v : Int32) : Int32 := if p = true then xmin 2 (v + 1) else xmax 0 (v - 1)
set_option maxHeartbeats 400000 in
theorem x_goOver (x1 : Int32) (c_picked : Int64) (c_counts : Nat → Int32) (r : Nat) (h : x1.toInt = r) (hr : r < 40) : Pc (f_X6_goOver x1 c_picked c_counts) (fun q => (∀ i, btL q.1 i = if i = r then !btL c_picked r else btL c_picked i) ∧ ∀ i, q.2 i = if i = r then 0 else c_counts i) := by
  unfold f_X6_goOver
  refine pc_vlet (pc_bad (fun _ => pc_vlet (pc_some ⟨fun i => ?_, fun i => ?_⟩)))
  · show btL (c_picked ^^^ xlshl 1 x1) i = _
    rw [btL_xor, btL_shl1 x1 r h hr]
    by_cases z : i = r
    · rw [if_pos z, decide_eq_true z, z]
      cases btL c_picked r <;> rfl
    · rw [if_neg z, decide_eq_false z]
      cases btL c_picked i <;> rfl
  · show upd c_counts x1.toNatClampNeg 0 i = _
    rw [show x1.toNatClampNeg = r by rw [tI_nat]; omega, upd_at]
set_option maxHeartbeats 400000 in
theorem x_runCoil (x2 : Int32) (x3 : Int32) (c_netlist_pickTime : Nat → Int32) (c_netlist_dropTime : Nat → Int32) (c_p1_picked : Int64) (c_p1_counts : Nat → Int32) (r : Nat) (E : Bool) (h : x2.toInt = r) (hr : r < 40) (hE : x3 = if E = true then 1 else 0) (hc : 0 ≤ (c_p1_counts r).toInt ∧ (c_p1_counts r).toInt < (if btL c_p1_picked r = true then c_netlist_dropTime r else c_netlist_pickTime r).toInt ∧ (if btL c_p1_picked r = true then c_netlist_dropTime r else c_netlist_pickTime r).toInt ≤ 20) : Pc (f_X2_runCoil x2 x3 c_netlist_pickTime c_netlist_dropTime c_p1_picked c_p1_counts) (fun q => (∀ i, btL q.1 i = if i = r then (stp false false E (btL c_p1_picked r) (c_p1_counts r) (c_netlist_pickTime r) (c_netlist_dropTime r)).1 else btL c_p1_picked i) ∧ ∀ i, q.2 i = if i = r then (stp false false E (btL c_p1_picked r) (c_p1_counts r) (c_netlist_pickTime r) (c_netlist_dropTime r)).2 else c_p1_counts i) := by
  unfold f_X2_runCoil
  have er : x2.toNatClampNeg = r := by rw [tI_nat]; omega
  refine pc_eq (x_isPicked _ _ r h hr) ?_
  rw [er, hE]
  have iff : ((if btL c_p1_picked r = true then (1 : Int32) else 0) = (if E = true then 1 else 0)) ↔ E = btL c_p1_picked r := by
    cases E <;> cases btL c_p1_picked r <;> decide
  have e2 : stp false false E (btL c_p1_picked r) (c_p1_counts r) (c_netlist_pickTime r) (c_netlist_dropTime r) = if E = btL c_p1_picked r then (btL c_p1_picked r, 0) else if c_p1_counts r + 1 = (if btL c_p1_picked r = true then c_netlist_dropTime r else c_netlist_pickTime r) then (!btL c_p1_picked r, 0) else (btL c_p1_picked r, c_p1_counts r + 1) := by
    unfold stp
    rw [if_neg (by decide), if_neg (by decide)]
  rw [e2]
  refine pc_if (fun z => pc_bad (fun _ => pc_vlet (pc_some ?_))) (fun z => pc_bad (fun _ => pc_vlet (pc_bad (fun _ => pc_vlet ?_))))
  · rw [if_pos (iff.mp z)]
    refine ⟨fun i => ?_, fun i => ?_⟩
    · by_cases w : i = r
      · rw [if_pos w, w]
      · rw [if_neg w]
    · show upd c_p1_counts r 0 i = _
      rw [upd_at]
  · rw [if_neg (fun q => z (iff.mpr q))]
    have go : ∀ y1 : Int32, y1 = (if btL c_p1_picked r = true then c_netlist_dropTime r else c_netlist_pickTime r) → Pc (f_X2_runCoil_63 c_netlist_pickTime c_netlist_dropTime x2 (upd c_p1_counts r (c_p1_counts r + 1) r) y1 c_p1_picked (upd c_p1_counts r (c_p1_counts r + 1))) (fun q => (∀ i, btL q.1 i = if i = r then (if c_p1_counts r + 1 = (if btL c_p1_picked r = true then c_netlist_dropTime r else c_netlist_pickTime r) then (!btL c_p1_picked r, (0 : Int32)) else (btL c_p1_picked r, c_p1_counts r + 1)).1 else btL c_p1_picked i) ∧ ∀ i, q.2 i = if i = r then (if c_p1_counts r + 1 = (if btL c_p1_picked r = true then c_netlist_dropTime r else c_netlist_pickTime r) then (!btL c_p1_picked r, (0 : Int32)) else (btL c_p1_picked r, c_p1_counts r + 1)).2 else c_p1_counts i) := by
      intro y1 hy
      rw [← hy] at hc ⊢
      unfold f_X2_runCoil_63
      rw [show upd c_p1_counts r (c_p1_counts r + 1) r = c_p1_counts r + 1 by rw [upd_at, if_pos rfl]]
      have ec : (c_p1_counts r + 1).toInt = (c_p1_counts r).toInt + 1 := by
        generalize c_p1_counts r = v at hc
        ((try simp only [tI_lt, tI_le, tI_eq, tI_add, tI_sub, tI_mul, tI_nat, Int32.reduceToInt, Int.reduceToNat, fe_0, fe_1, fe_2, fe_3, fe_4, fe_5]) <;> (try simp (disch := omega) only [tI_bm]) <;> omega)
      refine pc_if (fun a => pc_some ?_) (fun a => ?_)
      · rw [tI_lt] at a
        rw [if_neg (fun q => by rw [q] at a; exact absurd a (Int.lt_irrefl _))]
        refine ⟨fun i => ?_, fun i => ?_⟩
        · by_cases w : i = r
          · rw [if_pos w, w]
          · rw [if_neg w]
        · show upd c_p1_counts r (c_p1_counts r + 1) i = _
          rw [upd_at]
      · rw [tI_lt] at a
        rw [if_pos (Int32.toInt_inj.mp (by omega))]
        refine pc_bind (x_goOver (x1 := x2) (c_picked := c_p1_picked) (c_counts := upd c_p1_counts r (c_p1_counts r + 1)) r h hr) (fun q hq => pc_some ⟨hq.1, fun i => ?_⟩)
        rw [hq.2 i]
        by_cases w : i = r
        · rw [if_pos w, if_pos w]
        · rw [if_neg w, if_neg w, upd_at, if_neg w]
    refine pc_bad (fun _ => ?_)
    by_cases p : btL c_p1_picked r = true
    · rw [if_pos p] at hc ⊢
      rw [if_neg (by decide)]
      exact pc_bad (fun _ => go _ (by rw [if_pos p]))
    · rw [if_neg p] at hc ⊢
      rw [if_pos rfl]
      exact pc_bad (fun _ => go _ (by rw [if_neg p]))
/-! what stands behind a TICK, as far as relay k -/
def SXP (R : Nat) (nk : Nat → Nat) (E g w : Nat → Bool) (tp td : Nat → Int32) (p0 : Int64) (c0 po0 : Nat → Int32) (k : Nat) (p : Int64) (c po : Nat → Int32) : Prop := (∀ i, btL p i = if i < k then (stp (g i) (w i) (E i) (btL p0 i) (c0 i) (tp i) (td i)).1 else btL p0 i) ∧ (∀ i, i < 40 → c i = if i < k then (stp (g i) (w i) (E i) (btL p0 i) (c0 i) (tp i) (td i)).2 else c0 i) ∧ ∀ i, i < 40 → po i = if i < k ∧ 0 < nk i then mvp (stp (g i) (w i) (E i) (btL p0 i) (c0 i) (tp i) (td i)).1 (po0 i) else po0 i
set_option maxHeartbeats 400000 in
theorem x_move (x1 : Int32) (c_picked : Int64) (c_positions : Nat → Int32) (r : Nat) (h : x1.toInt = r) (hr : r < 40) : Pc (f_X6_moveContacts x1 c_picked c_positions) (fun q => ∀ i, q i = if i = r then mvp (btL c_picked r) (c_positions r) else c_positions i) := by
  unfold f_X6_moveContacts
  have er : x1.toNatClampNeg = r := by rw [tI_nat]; omega
  refine pc_eq (x_isPicked _ _ r h hr) ?_
  rw [er]
  unfold mvp
  by_cases p : btL c_picked r = true
  · rw [if_pos p, if_pos p, if_neg (by decide)]
    exact pc_bad (fun _ => pc_vlet (pc_bad (fun _ => pc_vlet (pc_some (fun i => by show upd c_positions r _ i = _; rw [upd_at])))))
  · rw [if_neg p, if_neg p, if_pos rfl]
    exact pc_bad (fun _ => pc_vlet (pc_bad (fun _ => pc_vlet (pc_some (fun i => by show upd c_positions r _ i = _; rw [upd_at])))))
set_option maxHeartbeats 400000 in
theorem x_step_18 (c_netlist_nets : Int32) (c_netlist_parts : Nat → Int32) (c_netlist_pickTime : Nat → Int32) (c_netlist_dropTime : Nat → Int32) (c_netlist_contacts : Nat → Int32) (c_netlist_makes : Nat → Int32) (c_netlist_period : Nat → Int32) (c_netlist_onTime : Nat → Int32) (c_netlist_netOf : Nat → Int32) (c_wear_stuckAt : Nat → Int32) (c_wear_dusty : Nat → Int32) (c_p1_keys : Int32) {nn : Nat} {ex : Nat → Prop} {JL DL : PL} {LV GD : Nat → Prop} (R : Nat) (nk : Nat → Nat) (E g w : Nat → Bool) (p0 : Int64) (c0 po0 : Nat → Int32) (hR : (c_netlist_parts 0).toInt = R) (hR4 : R ≤ 40) (hnk : ∀ r, r < R → (c_netlist_contacts r).toInt = nk r) (hN : NXI nn c_netlist_netOf ex) (hex : ∀ r, r < R → ex (2 + 20 * r) ∧ ex (2 + 20 * r + 1)) (hE : ∀ r, r < R → (E r = true ↔ ENG LV GD (2 + 20 * r) (2 + 20 * r + 1))) (hci : ∀ r, r < R → 0 ≤ (c0 r).toInt ∧ (c0 r).toInt < (if btL p0 r = true then c_netlist_dropTime r else c_netlist_pickTime r).toInt ∧ (if btL p0 r = true then c_netlist_dropTime r else c_netlist_pickTime r).toInt ≤ 20) (P : Nat → Int32) (wn T0 : Int32) (hS : SETP nn ex (nuX c_netlist_netOf) JL DL wn P) (hL : ∀ e, ex e → (bitP P 1 (nuX c_netlist_netOf) e ↔ LV e)) (hG : ∀ e, ex e → (bitP P 2 (nuX c_netlist_netOf) e ↔ GD e)) : ∀ (n : Nat) (x2 : Int32) (x3 : Int64) (x5 : Int32) (c_ways_nets : Int32) (c_ways_links : Int32) (c_ways_firstLink : Nat → Int32) (c_ways_nextLink : Nat → Int32) (c_ways_leadsTo : Nat → Int32) (c_ways_lets : Nat → Int32) (c_ways_powers : Nat → Int32) (c_ways_reached : Nat → Int32) (c_p1_picked : Int64) (c_p1_time : Int32) (c_p1_counts : Nat → Int32) (c_p1_positions : Nat → Int32) (r : Nat), x5.toInt = r → r ≤ R → (∀ i : Nat, i < 40 → (x2.toInt = i ↔ g i = true)) → (∀ i, i < 40 → btL x3 i = w i) → c_ways_nets = wn → c_ways_powers = P → c_p1_time = T0 → SXP R nk E g w c_netlist_pickTime c_netlist_dropTime p0 c0 po0 r c_p1_picked c_p1_counts c_p1_positions → Pc (f_X2_step_18 c_netlist_nets c_netlist_parts c_netlist_pickTime c_netlist_dropTime c_netlist_contacts c_netlist_makes c_netlist_period c_netlist_onTime c_netlist_netOf c_wear_stuckAt c_wear_dusty c_p1_keys n x2 x3 x5 c_ways_nets c_ways_links c_ways_firstLink c_ways_nextLink c_ways_leadsTo c_ways_lets c_ways_powers c_ways_reached c_p1_picked c_p1_time c_p1_counts c_p1_positions) (fun q => q.2.2.2.2.2.2.2.2.2.1 = T0 ∧ SXP R nk E g w c_netlist_pickTime c_netlist_dropTime p0 c0 po0 R q.2.2.2.2.2.2.2.2.1 q.2.2.2.2.2.2.2.2.2.2.1 q.2.2.2.2.2.2.2.2.2.2.2)
  | 0, x2, x3, x5, c_ways_nets, c_ways_links, c_ways_firstLink, c_ways_nextLink, c_ways_leadsTo, c_ways_lets, c_ways_powers, c_ways_reached, c_p1_picked, c_p1_time, c_p1_counts, c_p1_positions, r, h1, h2, hg, hw, e1, e2, e3, hI => pc_none
  | n + 1, x2, x3, x5, c_ways_nets, c_ways_links, c_ways_firstLink, c_ways_nextLink, c_ways_leadsTo, c_ways_lets, c_ways_powers, c_ways_reached, c_p1_picked, c_p1_time, c_p1_counts, c_p1_positions, r, h1, h2, hg, hw, e1, e2, e3, hI => by
    unfold f_X2_step_18
    rw [show (0 : Int32).toNatClampNeg = 0 from by decide]
    refine pc_bad (fun _ => pc_if (fun a => ?_) (fun a => ?_))
    · rw [tI_le] at a
      have : r = R := by omega
      subst this
      exact pc_some ⟨e3, hI⟩
    rw [tI_le] at a
    have rR : r < R := by omega
    have r4 : r < 40 := by omega
    have er : x5.toNatClampNeg = r := by rw [tI_nat]; omega
    have e5 : (x5 + 1).toInt = ((r + 1 : Nat) : Int) := by ((try simp only [tI_lt, tI_le, tI_eq, tI_add, tI_sub, tI_mul, tI_nat, Int32.reduceToInt, Int.reduceToNat, fe_0, fe_1, fe_2, fe_3, fe_4, fe_5]) <;> (try simp (disch := omega) only [tI_bm]) <;> omega)
    obtain ⟨i1, i2, i3⟩ := hI
    have pr : btL c_p1_picked r = btL p0 r := by rw [i1 r, if_neg (Nat.lt_irrefl _)]
    have cr : c_p1_counts r = c0 r := by rw [i2 r r4, if_neg (Nat.lt_irrefl _)]
    have por : c_p1_positions r = po0 r := by rw [i3 r r4, if_neg (fun z => Nat.lt_irrefl _ z.1)]
    -- behind the coil
    have on : ∀ (p : Int64) (c : Nat → Int32), (∀ i, btL p i = if i = r then (stp (g r) (w r) (E r) (btL p0 r) (c0 r) (c_netlist_pickTime r) (c_netlist_dropTime r)).1 else btL c_p1_picked i) → (∀ i, i < 40 → c i = if i = r then (stp (g r) (w r) (E r) (btL p0 r) (c0 r) (c_netlist_pickTime r) (c_netlist_dropTime r)).2 else c_p1_counts i) → Pc (f_X2_step_72 (f_X2_step_18 c_netlist_nets c_netlist_parts c_netlist_pickTime c_netlist_dropTime c_netlist_contacts c_netlist_makes c_netlist_period c_netlist_onTime c_netlist_netOf c_wear_stuckAt c_wear_dusty c_p1_keys n) c_netlist_nets c_netlist_parts c_netlist_pickTime c_netlist_dropTime c_netlist_contacts c_netlist_makes c_netlist_period c_netlist_onTime c_netlist_netOf c_wear_stuckAt c_wear_dusty c_p1_keys x2 x3 x5 c_ways_nets c_ways_links c_ways_firstLink c_ways_nextLink c_ways_leadsTo c_ways_lets c_ways_powers c_ways_reached p c_p1_time c c_p1_positions) (fun q => q.2.2.2.2.2.2.2.2.2.1 = T0 ∧ SXP R nk E g w c_netlist_pickTime c_netlist_dropTime p0 c0 po0 R q.2.2.2.2.2.2.2.2.1 q.2.2.2.2.2.2.2.2.2.2.1 q.2.2.2.2.2.2.2.2.2.2.2) := by
      intro p c hp hc
      unfold f_X2_step_72 f_X2_step_91
      rw [er]
      have rc9 : ∀ po : Nat → Int32, (∀ i, i < 40 → po i = if i = r ∧ 0 < nk r then mvp (stp (g r) (w r) (E r) (btL p0 r) (c0 r) (c_netlist_pickTime r) (c_netlist_dropTime r)).1 (po0 r) else c_p1_positions i) → Pc (f_X2_step_18 c_netlist_nets c_netlist_parts c_netlist_pickTime c_netlist_dropTime c_netlist_contacts c_netlist_makes c_netlist_period c_netlist_onTime c_netlist_netOf c_wear_stuckAt c_wear_dusty c_p1_keys n x2 x3 (x5 + 1) c_ways_nets c_ways_links c_ways_firstLink c_ways_nextLink c_ways_leadsTo c_ways_lets c_ways_powers c_ways_reached p c_p1_time c po) (fun q => q.2.2.2.2.2.2.2.2.2.1 = T0 ∧ SXP R nk E g w c_netlist_pickTime c_netlist_dropTime p0 c0 po0 R q.2.2.2.2.2.2.2.2.1 q.2.2.2.2.2.2.2.2.2.2.1 q.2.2.2.2.2.2.2.2.2.2.2) := by
        intro po hpo
        refine x_step_18 c_netlist_nets c_netlist_parts c_netlist_pickTime c_netlist_dropTime c_netlist_contacts c_netlist_makes c_netlist_period c_netlist_onTime c_netlist_netOf c_wear_stuckAt c_wear_dusty c_p1_keys R nk E g w p0 c0 po0 hR hR4 hnk hN hex hE hci P wn T0 hS hL hG n _ _ _ _ _ _ _ _ _ _ _ _ _ _ _ (r + 1) e5 (by omega) hg hw e1 e2 e3 ⟨fun i => ?_, fun i hi => ?_, fun i hi => ?_⟩
        · rw [hp i, i1 i]
          by_cases z : i = r
          · rw [if_pos z, if_pos (by omega), z]
          · rw [if_neg z]
            by_cases y : i < r
            · rw [if_pos y, if_pos (by omega)]
            · rw [if_neg y, if_neg (by omega)]
        · rw [hc i hi, i2 i hi]
          by_cases z : i = r
          · rw [if_pos z, if_pos (by omega), z]
          · rw [if_neg z]
            by_cases y : i < r
            · rw [if_pos y, if_pos (by omega)]
            · rw [if_neg y, if_neg (by omega)]
        · rw [hpo i hi, i3 i hi]
          by_cases z : i = r
          · subst z
            by_cases y : 0 < nk i
            · rw [if_pos ⟨rfl, y⟩, if_pos ⟨by omega, y⟩]
            · rw [if_neg (fun q => y q.2), if_neg (fun q => y q.2), if_neg (fun q => y q.2)]
          · rw [if_neg (fun q => z q.1)]
            by_cases y : i < r ∧ 0 < nk i
            · rw [if_pos y, if_pos ⟨by omega, y.2⟩]
            · rw [if_neg y, if_neg (fun q => y ⟨by omega, q.2⟩)]
      have nr := hnk r rR
      refine pc_bad (fun _ => pc_if (fun z => pc_vlet (rc9 _ (fun i hi => ?_))) (fun z => ?_))
      · rw [tI_le, l_0] at z
        rw [if_neg (fun q => by omega)]
      · rw [tI_le, l_0] at z
        refine pc_bind (x_move x5 p c_p1_positions r h1 r4) (fun q hq => pc_vlet (rc9 _ (fun i hi => ?_)))
        rw [hq i, hp r, if_pos rfl, por]
        by_cases y : i = r
        · rw [if_pos y, if_pos ⟨y, by omega⟩]
        · rw [if_neg y, if_neg (fun q => y q.1)]
    have sg : g r = true → stp (g r) (w r) (E r) (btL p0 r) (c0 r) (c_netlist_pickTime r) (c_netlist_dropTime r) = (!btL p0 r, 0) := fun z => by unfold stp; rw [if_pos z]
    have sw : ¬ g r = true → w r = true → stp (g r) (w r) (E r) (btL p0 r) (c0 r) (c_netlist_pickTime r) (c_netlist_dropTime r) = (btL p0 r, c0 r) := fun z y => by unfold stp; rw [if_neg z, if_pos y]
    have sn : ¬ g r = true → ¬ w r = true → stp (g r) (w r) (E r) (btL p0 r) (c0 r) (c_netlist_pickTime r) (c_netlist_dropTime r) = stp false false (E r) (btL p0 r) (c0 r) (c_netlist_pickTime r) (c_netlist_dropTime r) := fun z y => by
      rw [eq_false_of_ne_true z, eq_false_of_ne_true y]
    have gx : x5 = x2 ↔ g r = true := by
      rw [← hg r r4]
      exact ⟨fun q => by rw [← q]; exact h1, fun q => Int32.toInt_inj.mp (by rw [q, h1])⟩
    refine pc_if (fun z => ?_) (fun z => ?_)
    · have gr := gx.mp z
      refine pc_bind (x_goOver (x1 := x5) (c_picked := c_p1_picked) (c_counts := c_p1_counts) r h1 r4) (fun q hq => on _ _ (fun i => ?_) (fun i hi => ?_))
      · rw [hq.1 i, sg gr, pr]
      · rw [hq.2 i, sg gr]
    · have gr : ¬ g r = true := fun q => z (gx.mpr q)
      have wr := btL_shr x3 x5 r h1 r4
      rw [hw r r4] at wr
      refine pc_if (fun y => ?_) (fun y => on _ _ (fun i => ?_) (fun i hi => ?_))
      · have w0 : ¬ w r = true := by rw [wr.mp y]; decide
        have c0' : cEnd 0 r 0 = 20 * r := by show 0 + 20 * r + 0 = _; omega
        have c1' : cEnd 0 r 1 = 20 * r + 1 := by show 0 + 20 * r + 1 = _; omega
        refine pc_bind (x_isFed (x1 := 0) (x2 := x5) (c_netlist_netOf := c_netlist_netOf) (c_ways_nets := c_ways_nets) (c_ways_powers := c_ways_powers) (LV := LV) (GD := GD) 0 r (2 + 20 * r) (by decide) (by decide) h1 r4 (by rw [c0', c1']; omega) (hex r rR).1 (hex r rR).2 hN (by rw [e1, e2]; exact hS) (by rw [e2]; exact hL) (by rw [e2]; exact hG)) (fun r2 q2 => ?_)
        have eE : r2 = if E r = true then 1 else 0 := by
          rcases q2 with ⟨q, t⟩ | ⟨q, t⟩
          · rw [q, if_pos ((hE r rR).mpr t)]
          · rw [q, if_neg (fun v => t ((hE r rR).mp v))]
        have ci := hci r rR
        rw [← pr, ← cr] at ci
        refine pc_bind (x_runCoil (x2 := x5) (x3 := r2) (c_netlist_pickTime := c_netlist_pickTime) (c_netlist_dropTime := c_netlist_dropTime) (c_p1_picked := c_p1_picked) (c_p1_counts := c_p1_counts) r (E r) h1 r4 eE ci) (fun q hq => on _ _ (fun i => ?_) (fun i hi => ?_))
        · rw [hq.1 i, sn gr w0, pr, cr]
        · rw [hq.2 i, sn gr w0, pr, cr]
      · have w1 : w r = true := by
          cases v : w r with
          | true => rfl
          | false => exact absurd (wr.mpr v) y
        rw [sw gr w1]
        by_cases v : i = r
        · rw [if_pos v, v, pr]
        · rw [if_neg v]
      · have w1 : w r = true := by
          cases v : w r with
          | true => rfl
          | false => exact absurd (wr.mpr v) y
        rw [sw gr w1]
        by_cases v : i = r
        · rw [if_pos v, v, cr]
        · rw [if_neg v]
