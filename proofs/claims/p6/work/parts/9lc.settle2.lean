/-! the class's settling: contacts, keys, clocks, diodes -/
def nuX (netOf : Nat → Int32) (e : Nat) : Nat := (netOf ((e + 952) % 954)).toInt.toNat
def NXI (n : Nat) (netOf : Nat → Int32) (ex : Nat → Prop) : Prop := ∀ e, ex e → e < 954 ∧ 0 ≤ (netOf ((e + 952) % 954)).toInt ∧ (netOf ((e + 952) % 954)).toInt < n
def exC (ex : Nat → Prop) (r nk : Nat) : Prop := ∀ c, c < nk → ex (20 * r + 3 * c + 4) ∧ ex (20 * r + 3 * c + 5) ∧ ex (20 * r + 3 * c + 6)
def mkb (v : Int32) (c : Nat) : Bool := decide (¬ (xshr v (Int32.ofNat c)) &&& 1 = 0)
def cntd (stuck : Nat → Int32) (pos : Int32) (i : Nat) : Int := if stuck i = -1 then pos.toInt else (stuck i).toInt
def efX (makes stuck dusty pos : Nat → Int32) (r c : Nat) : PL := if dusty (6 * r + c) = 0 then conE (mkb (makes r) c) (cntd stuck (pos r) (6 * r + c)) (20 * r + 3 * c + 4) else []
set_option maxHeartbeats 400000 in
theorem efX_len (makes stuck dusty pos : Nat → Int32) (r c : Nat) : (efX makes stuck dusty pos r c).length ≤ 2 := by
  unfold efX
  split
  · exact conE_len _ _ _
  · exact Nat.zero_le _
set_option maxHeartbeats 400000 in
theorem g_150 {nn : Nat} {ex : Nat → Prop} {JL DL LL : PL} (mid : Nat) (c_netlist_makes : Nat → Int32) (c_netlist_netOf : Nat → Int32) (c_wear_stuckAt : Nat → Int32) (c_wear_dusty : Nat → Int32) (c_ways_nets : Int32) (x7 : Int32) (x8 : Int32) (c_ways_links : Int32) (c_ways_firstLink : Nat → Int32) (c_ways_nextLink : Nat → Int32) (c_ways_leadsTo : Nat → Int32) (c_ways_lets : Nat → Int32) (h : GI nn (nuX c_netlist_netOf) JL DL c_ways_nets c_ways_links c_ways_firstLink c_ways_nextLink c_ways_leadsTo c_ways_lets) (hN : NXI nn c_netlist_netOf ex) (he : ex mid ∧ ex (mid + 1) ∧ ex (mid + 2)) (hm : 2 ≤ mid) (h7 : x7.toInt = ((mid - 2 : Nat) : Int)) (h8 : x8 = c_netlist_netOf (mid - 2)) (hl : JL.length + DL.length ≤ 599) (hL : LL = (mid, mid + 2) :: JL) : Pc (f_X2_joinContact_150 c_netlist_makes c_netlist_netOf c_wear_stuckAt c_wear_dusty c_ways_nets x7 x8 c_ways_links c_ways_firstLink c_ways_nextLink c_ways_leadsTo c_ways_lets) (fun r => GI nn (nuX c_netlist_netOf) LL DL c_ways_nets r.1 r.2.1 r.2.2.1 r.2.2.2.1 r.2.2.2.2) := by
  unfold f_X2_joinContact_150
  refine pc_bad (fun b => ?_)
  obtain ⟨l1, n1, n2⟩ := hN mid he.1
  obtain ⟨l3, n3, n4⟩ := hN (mid + 2) he.2.2
  rw [show (mid + 952) % 954 = mid - 2 by omega] at n1 n2
  rw [show (mid + 2 + 952) % 954 = mid by omega] at n3 n4
  have e7 : (x7 + 2).toNatClampNeg = mid := by
    have : (x7 + 2).toInt = mid := by ((try simp only [tI_lt, tI_le, tI_eq, tI_add, tI_sub, tI_mul, tI_nat, Int32.reduceToInt, Int.reduceToNat, fe_0, fe_1, fe_2, fe_3, fe_4, fe_5]) <;> (try simp (disch := omega) only [tI_bm]) <;> omega)
    rw [tI_nat]; omega
  rw [e7, h8]
  refine pc_bind (pc_ok (GI_J (mid, mid + 2) _ _ _ _ _ _ _ _ _ _ h ?_ ?_ ?_ ?_ hl rfl rfl)) (fun r hr => pc_some (by rw [hL]; exact hr))
  · unfold nuX
    rw [show ((mid, mid + 2).1 + 952) % 954 = mid - 2 by show (mid + 952) % 954 = _; omega]; omega
  · unfold nuX
    rw [show ((mid, mid + 2).2 + 952) % 954 = mid by show (mid + 2 + 952) % 954 = _; omega]; omega
  · unfold nuX
    rw [show ((mid, mid + 2).1 + 952) % 954 = mid - 2 by show (mid + 952) % 954 = _; omega]; omega
  · unfold nuX
    rw [show ((mid, mid + 2).2 + 952) % 954 = mid by show (mid + 2 + 952) % 954 = _; omega]; omega
set_option maxHeartbeats 400000 in
theorem g_140 {nn : Nat} {ex : Nat → Prop} {JL DL : PL} (mid : Nat) (c_netlist_makes : Nat → Int32) (c_netlist_netOf : Nat → Int32) (c_wear_stuckAt : Nat → Int32) (c_wear_dusty : Nat → Int32) (c_ways_nets : Int32) (x5 : Int32) (x6 : Int32) (x7 : Int32) (x8 : Int32) (c_ways_links : Int32) (c_ways_firstLink : Nat → Int32) (c_ways_nextLink : Nat → Int32) (c_ways_leadsTo : Nat → Int32) (c_ways_lets : Nat → Int32) (h : GI nn (nuX c_netlist_netOf) JL DL c_ways_nets c_ways_links c_ways_firstLink c_ways_nextLink c_ways_leadsTo c_ways_lets) (hN : NXI nn c_netlist_netOf ex) (he : ex mid ∧ ex (mid + 1) ∧ ex (mid + 2)) (hm : 2 ≤ mid) (h7 : x7.toInt = ((mid - 2 : Nat) : Int)) (h8 : x8 = c_netlist_netOf (mid - 2)) (hl : JL.length + DL.length ≤ 599) {LL : PL} (hL : LL = (if x5.toInt = 0 ∨ ¬ x6 = 0 then [(mid, mid + 2)] else []) ++ JL) : Pc (f_X2_joinContact_140 c_netlist_makes c_netlist_netOf c_wear_stuckAt c_wear_dusty c_ways_nets x5 x6 x7 x8 c_ways_links c_ways_firstLink c_ways_nextLink c_ways_leadsTo c_ways_lets) (fun r => GI nn (nuX c_netlist_netOf) LL DL c_ways_nets r.1 r.2.1 r.2.2.1 r.2.2.2.1 r.2.2.2.2) := by
  unfold f_X2_joinContact_140
  refine pc_if (fun a => pc_if (fun b => ?_) (fun b => ?_)) (fun a => ?_)
  · exact g_150 mid _ _ _ _ _ _ _ _ _ _ _ _ h hN he hm h7 h8 hl (by rw [hL, if_pos (.inl (by rw [b]; decide))]; rfl)
  · refine pc_some ?_
    rw [hL, if_neg (fun q => q.elim (fun z => b (Int32.toInt_inj.mp (by rw [z, l_0]))) (fun z => z a))]
    exact h
  · exact g_150 mid _ _ _ _ _ _ _ _ _ _ _ _ h hN he hm h7 h8 hl (by rw [hL, if_pos (.inr a)]; rfl)
set_option maxHeartbeats 400000 in
theorem g_117 {nn : Nat} {ex : Nat → Prop} {JL DL : PL} (mid : Nat) (c_netlist_makes : Nat → Int32) (c_netlist_netOf : Nat → Int32) (c_wear_stuckAt : Nat → Int32) (c_wear_dusty : Nat → Int32) (c_ways_nets : Int32) (x5 : Int32) (x6 : Int32) (x7 : Int32) (x8 : Int32) (c_ways_links : Int32) (c_ways_firstLink : Nat → Int32) (c_ways_nextLink : Nat → Int32) (c_ways_leadsTo : Nat → Int32) (c_ways_lets : Nat → Int32) (h : GI nn (nuX c_netlist_netOf) JL DL c_ways_nets c_ways_links c_ways_firstLink c_ways_nextLink c_ways_leadsTo c_ways_lets) (hN : NXI nn c_netlist_netOf ex) (he : ex mid ∧ ex (mid + 1) ∧ ex (mid + 2)) (hm : 2 ≤ mid) (h7 : x7.toInt = ((mid - 2 : Nat) : Int)) (h8 : x8 = c_netlist_netOf (mid - 2)) (hl : JL.length + DL.length ≤ 598) {LL : PL} (hL : LL = (if x5.toInt = 0 ∨ ¬ x6 = 0 then [(mid, mid + 2)] else []) ++ (mid, mid + 1) :: JL) : Pc (f_X2_joinContact_117 c_netlist_makes c_netlist_netOf c_wear_stuckAt c_wear_dusty c_ways_nets x5 x6 x7 x8 c_ways_links c_ways_firstLink c_ways_nextLink c_ways_leadsTo c_ways_lets) (fun r => GI nn (nuX c_netlist_netOf) LL DL c_ways_nets r.1 r.2.1 r.2.2.1 r.2.2.2.1 r.2.2.2.2) := by
  unfold f_X2_joinContact_117
  refine pc_bad (fun b => ?_)
  obtain ⟨l1, n1, n2⟩ := hN mid he.1
  obtain ⟨l3, n3, n4⟩ := hN (mid + 1) he.2.1
  rw [show (mid + 952) % 954 = mid - 2 by omega] at n1 n2
  rw [show (mid + 1 + 952) % 954 = mid - 1 by omega] at n3 n4
  have e7 : (x7 + 1).toNatClampNeg = mid - 1 := by
    have : (x7 + 1).toInt = ((mid - 1 : Nat) : Int) := by ((try simp only [tI_lt, tI_le, tI_eq, tI_add, tI_sub, tI_mul, tI_nat, Int32.reduceToInt, Int.reduceToNat, fe_0, fe_1, fe_2, fe_3, fe_4, fe_5]) <;> (try simp (disch := omega) only [tI_bm]) <;> omega)
    rw [tI_nat]; omega
  rw [e7, h8]
  refine pc_bind (pc_ok (GI_J (mid, mid + 1) _ _ _ _ _ _ _ _ _ _ h ?_ ?_ ?_ ?_ (by omega) rfl rfl)) (fun r hr => ?_)
  · unfold nuX
    rw [show ((mid, mid + 1).1 + 952) % 954 = mid - 2 by show (mid + 952) % 954 = _; omega]; omega
  · unfold nuX
    rw [show ((mid, mid + 1).2 + 952) % 954 = mid - 1 by show (mid + 1 + 952) % 954 = _; omega]; omega
  · unfold nuX
    rw [show ((mid, mid + 1).1 + 952) % 954 = mid - 2 by show (mid + 952) % 954 = _; omega]; omega
  · unfold nuX
    rw [show ((mid, mid + 1).2 + 952) % 954 = mid - 1 by show (mid + 1 + 952) % 954 = _; omega]; omega
  · exact g_140 mid _ _ _ _ _ _ _ _ _ _ _ _ _ _ hr hN he hm h7 rfl (by rw [List.length_cons]; omega) hL
set_option maxHeartbeats 400000 in
theorem g_74 {nn : Nat} {ex : Nat → Prop} {JL DL : PL} (r c : Nat) (c_netlist_makes : Nat → Int32) (c_netlist_netOf : Nat → Int32) (c_wear_stuckAt : Nat → Int32) (c_wear_dusty : Nat → Int32) (c_ways_nets : Int32) (x1 : Int32) (x2 : Int32) (x5 : Int32) (y0 : Int32) (c_ways_links : Int32) (c_ways_firstLink : Nat → Int32) (c_ways_nextLink : Nat → Int32) (c_ways_leadsTo : Nat → Int32) (c_ways_lets : Nat → Int32) (h : GI nn (nuX c_netlist_netOf) JL DL c_ways_nets c_ways_links c_ways_firstLink c_ways_nextLink c_ways_leadsTo c_ways_lets) (hN : NXI nn c_netlist_netOf ex) (he : ex (20 * r + 3 * c + 4) ∧ ex (20 * r + 3 * c + 5) ∧ ex (20 * r + 3 * c + 6)) (hr : x1.toInt = r) (hc : x2.toInt = c + 1) (r40 : r < 40) (c6 : c < 6) (hl : JL.length + DL.length ≤ 598) {LL : PL} (hL : LL = (if x5.toInt = 0 ∨ ¬ y0 = 0 then [(20 * r + 3 * c + 4, 20 * r + 3 * c + 6)] else []) ++ ((if x5.toInt = 2 ∨ ¬ y0 = 0 then [(20 * r + 3 * c + 4, 20 * r + 3 * c + 5)] else []) ++ JL)) : Pc (f_X2_joinContact_74 c_netlist_makes c_netlist_netOf c_wear_stuckAt c_wear_dusty c_ways_nets x1 x2 x5 y0 c_ways_links c_ways_firstLink c_ways_nextLink c_ways_leadsTo c_ways_lets) (fun r => GI nn (nuX c_netlist_netOf) LL DL c_ways_nets r.1 r.2.1 r.2.2.1 r.2.2.2.1 r.2.2.2.2) := by
  unfold f_X2_joinContact_74
  have e : ((((cFE (0 : Int32).toNatClampNeg) + (x1 * (20 : Int32))) + ((3 : Int32) * x2)) - (1 : Int32)).toInt = ((20 * r + 3 * c + 4 - 2 : Nat) : Int) := by ((try simp only [tI_lt, tI_le, tI_eq, tI_add, tI_sub, tI_mul, tI_nat, Int32.reduceToInt, Int.reduceToNat, fe_0, fe_1, fe_2, fe_3, fe_4, fe_5] at *) <;> (try simp (disch := omega) only [tI_bm]) <;> (first | omega | ((try simp (disch := omega) only [tI_bm] at *) <;> omega)))
  refine pc_bad (fun _ => pc_vlet ?_)
  generalize ((((cFE (0 : Int32).toNatClampNeg) + (x1 * (20 : Int32))) + ((3 : Int32) * x2)) - (1 : Int32)) = t2 at e
  refine pc_bad (fun _ => pc_vlet ?_)
  have e2 : t2.toNatClampNeg = 20 * r + 3 * c + 4 - 2 := by rw [tI_nat]; omega
  rw [e2]
  refine pc_if (fun a => pc_if (fun b => ?_) (fun b => ?_)) (fun a => ?_)
  · exact g_117 (20 * r + 3 * c + 4) _ _ _ _ _ _ _ _ _ _ _ _ _ _ h hN he (by omega) e rfl hl (by rw [hL, if_pos (show x5.toInt = 2 ∨ _ from .inl (by rw [b]; decide))]; rfl)
  · refine g_140 (20 * r + 3 * c + 4) _ _ _ _ _ _ _ _ _ _ _ _ _ _ h hN he (by omega) e rfl (by omega) ?_
    rw [hL, if_neg (show ¬ (x5.toInt = 2 ∨ ¬ y0 = 0) from fun q => q.elim (fun z => b (Int32.toInt_inj.mp (by rw [z, l_2]))) (fun z => z a)), List.nil_append]
  · exact g_117 (20 * r + 3 * c + 4) _ _ _ _ _ _ _ _ _ _ _ _ _ _ h hN he (by omega) e rfl hl (by rw [hL, if_pos (show x5.toInt = 2 ∨ _ from .inr a)]; rfl)
set_option maxHeartbeats 400000 in
theorem g_contact {nn : Nat} {ex : Nat → Prop} {JL DL : PL} (r c : Nat) (x1 : Int32) (x2 : Int32) (x3 : Int32) (c_netlist_makes : Nat → Int32) (c_netlist_netOf : Nat → Int32) (c_wear_stuckAt : Nat → Int32) (c_wear_dusty : Nat → Int32) (c_ways_nets : Int32) (c_ways_links : Int32) (c_ways_firstLink : Nat → Int32) (c_ways_nextLink : Nat → Int32) (c_ways_leadsTo : Nat → Int32) (c_ways_lets : Nat → Int32) (pos : Nat → Int32) (h : GI nn (nuX c_netlist_netOf) JL DL c_ways_nets c_ways_links c_ways_firstLink c_ways_nextLink c_ways_leadsTo c_ways_lets) (hN : NXI nn c_netlist_netOf ex) (he : ex (20 * r + 3 * c + 4) ∧ ex (20 * r + 3 * c + 5) ∧ ex (20 * r + 3 * c + 6)) (hr : x1.toInt = r) (hc : x2.toInt = c + 1) (h3 : x3 = pos r) (r40 : r < 40) (c6 : c < 6) (hl : JL.length + DL.length ≤ 598) {LL : PL} (hL : LL = efX c_netlist_makes c_wear_stuckAt c_wear_dusty pos r c ++ JL) : Pc (f_X2_joinContact x1 x2 x3 c_netlist_makes c_netlist_netOf c_wear_stuckAt c_wear_dusty c_ways_nets c_ways_links c_ways_firstLink c_ways_nextLink c_ways_leadsTo c_ways_lets) (fun r => GI nn (nuX c_netlist_netOf) LL DL c_ways_nets r.1 r.2.1 r.2.2.1 r.2.2.2.1 r.2.2.2.2) := by
  unfold f_X2_joinContact
  rw [s_X10_contactNumber]
  have e : (x1 * 6 + x2 - 1).toInt = ((6 * r + c : Nat) : Int) := by ((try simp only [tI_lt, tI_le, tI_eq, tI_add, tI_sub, tI_mul, tI_nat, Int32.reduceToInt, Int.reduceToNat, fe_0, fe_1, fe_2, fe_3, fe_4, fe_5] at *) <;> (try simp (disch := omega) only [tI_bm]) <;> (first | omega | ((try simp (disch := omega) only [tI_bm] at *) <;> omega)))
  refine pc_eq rfl ?_
  generalize x1 * 6 + x2 - 1 = i at e
  have ei : i.toNatClampNeg = 6 * r + c := by rw [tI_nat]; omega
  rw [ei]
  have go : ∀ y0 : Int32, y0.toInt = cntd c_wear_stuckAt (pos r) (6 * r + c) → c_wear_dusty (6 * r + c) = 0 → Pc (f_X2_joinContact_49 c_netlist_makes c_netlist_netOf c_wear_stuckAt c_wear_dusty c_ways_nets x1 x2 y0 c_ways_links c_ways_firstLink c_ways_nextLink c_ways_leadsTo c_ways_lets) (fun r => GI nn (nuX c_netlist_netOf) LL DL c_ways_nets r.1 r.2.1 r.2.2.1 r.2.2.2.1 r.2.2.2.2) := by
    intro y0 hy hd
    have hL2 : LL = conE (mkb (c_netlist_makes r) c) y0.toInt (20 * r + 3 * c + 4) ++ JL := by
      rw [hL]
      unfold efX
      rw [if_pos hd, hy]
    unfold conE at hL2
    rw [List.append_assoc] at hL2
    unfold f_X2_joinContact_49 f_X2_joinContact_73
    refine pc_if (fun a => ?_) (fun a => ?_)
    · have ya : y0.toInt = 1 := by rw [a]; decide
      unfold f_X3_makesFirst
      have e1 : x1.toNatClampNeg = r := by rw [tI_nat]; omega
      have e2 : x2 - 1 = Int32.ofNat c := Int32.toInt_inj.mp (by rw [Int32.toInt_ofNat_of_lt (by omega)]; ((try simp only [tI_lt, tI_le, tI_eq, tI_add, tI_sub, tI_mul, tI_nat, Int32.reduceToInt, Int.reduceToNat, fe_0, fe_1, fe_2, fe_3, fe_4, fe_5]) <;> (try simp (disch := omega) only [tI_bm]) <;> omega))
      rw [e1, e2]
      refine pc_bind (P := fun q => (q = 0 ∧ mkb (c_netlist_makes r) c = false) ∨ (¬ q = 0 ∧ mkb (c_netlist_makes r) c = true)) (pc_bad (fun _ => pc_if (fun z => pc_some (.inl ⟨rfl, ?_⟩)) (fun z => pc_some (.inr ⟨by decide, ?_⟩)))) (fun q hq => ?_)
      · unfold mkb; rw [decide_eq_false_iff_not]; exact fun w => w z
      · unfold mkb; rw [decide_eq_true_eq]; exact z
      · rcases hq with ⟨q1, q2⟩ | ⟨q1, q2⟩
        · rw [if_pos q1]
          refine g_74 r c _ _ _ _ _ _ _ _ _ _ _ _ _ _ h hN he hr hc r40 c6 hl ?_
          rw [hL2, q2, if_neg (by rw [ya]; intro z; rcases z with z | z; exact absurd z (by decide); exact absurd z.2 (by decide)), if_neg (by rw [ya]; intro z; rcases z with z | z; exact absurd z (by decide); exact absurd z.2 (by decide)), if_neg (by rw [ya]; intro z; rcases z with z | z; exact absurd z (by decide); exact z rfl), if_neg (by rw [ya]; intro z; rcases z with z | z; exact absurd z (by decide); exact z rfl)]
        · rw [if_neg q1]
          refine g_74 r c _ _ _ _ _ _ _ _ _ _ _ _ _ _ h hN he hr hc r40 c6 hl ?_
          rw [hL2, q2, if_pos (.inr ⟨ya, rfl⟩), if_pos (.inr ⟨ya, rfl⟩), if_pos (.inr (by decide)), if_pos (.inr (by decide))]
    · have ya : ¬ y0.toInt = 1 := fun z => a (Int32.toInt_inj.mp (by rw [z, l_1]))
      refine g_74 r c _ _ _ _ _ _ _ _ _ _ _ _ _ _ h hN he hr hc r40 c6 hl ?_
      rw [hL2]
      have k : ∀ (v : Int) (b : Bool), (y0.toInt = v ∨ (y0.toInt = 1 ∧ b = true)) ↔ (y0.toInt = v ∨ ¬ (0 : Int32) = 0) := fun v b => ⟨fun z => z.elim .inl (fun w => absurd w.1 ya), fun z => z.elim .inl (fun w => absurd rfl w)⟩
      simp only [k]
  refine pc_bad (fun _ => pc_if (fun d => pc_bad (fun _ => pc_if (fun s => ?_) (fun s => pc_bad (fun _ => ?_)))) (fun d => ?_))
  · exact go x3 (by unfold cntd; rw [if_pos s, h3]) d
  · exact go _ (by unfold cntd; rw [if_neg s]) d
  · refine pc_some ?_
    have : LL = JL := by
      rw [hL]
      unfold efX
      rw [if_neg d]; rfl
    rw [this]
    exact h
set_option maxHeartbeats 400000 in
theorem g_ends {nn : Nat} {ex : Nat → Prop} {JL DL : PL} (a : Nat) (x1 : Int32) (x2 : Int32) (c_netlist_netOf : Nat → Int32) (c_ways_nets : Int32) (c_ways_links : Int32) (c_ways_firstLink : Nat → Int32) (c_ways_nextLink : Nat → Int32) (c_ways_leadsTo : Nat → Int32) (c_ways_lets : Nat → Int32) (h : GI nn (nuX c_netlist_netOf) JL DL c_ways_nets c_ways_links c_ways_firstLink c_ways_nextLink c_ways_leadsTo c_ways_lets) (hN : NXI nn c_netlist_netOf ex) (he : ex a ∧ ex (a + 1)) (ha : 2 ≤ a) (h1 : x1.toInt = ((a - 2 : Nat) : Int)) (hl : JL.length + DL.length ≤ 599) : (x2 = 3 → ∀ LL, LL = (a, a + 1) :: JL → Pc (f_X2_joinEnds x1 x2 c_netlist_netOf c_ways_nets c_ways_links c_ways_firstLink c_ways_nextLink c_ways_leadsTo c_ways_lets) (fun r => GI nn (nuX c_netlist_netOf) LL DL c_ways_nets r.1 r.2.1 r.2.2.1 r.2.2.2.1 r.2.2.2.2)) ∧ (x2 = 1 → Pc (f_X2_joinEnds x1 x2 c_netlist_netOf c_ways_nets c_ways_links c_ways_firstLink c_ways_nextLink c_ways_leadsTo c_ways_lets) (fun r => GI nn (nuX c_netlist_netOf) JL ((a, a + 1) :: DL) c_ways_nets r.1 r.2.1 r.2.2.1 r.2.2.2.1 r.2.2.2.2)) := by
  obtain ⟨l1, n1, n2⟩ := hN a he.1
  obtain ⟨l3, n3, n4⟩ := hN (a + 1) he.2
  rw [show (a + 952) % 954 = a - 2 by omega] at n1 n2
  rw [show (a + 1 + 952) % 954 = a - 1 by omega] at n3 n4
  have v1 : nuX c_netlist_netOf a = (c_netlist_netOf (a - 2)).toInt.toNat := by unfold nuX; rw [show (a + 952) % 954 = a - 2 by omega]
  have v2 : nuX c_netlist_netOf (a + 1) = (c_netlist_netOf (a - 1)).toInt.toNat := by unfold nuX; rw [show (a + 1 + 952) % 954 = a - 1 by omega]
  have e1 : x1.toNatClampNeg = a - 2 := by rw [tI_nat]; omega
  have e2 : (x1 + 1).toNatClampNeg = a - 1 := by
    have : (x1 + 1).toInt = ((a - 1 : Nat) : Int) := by ((try simp only [tI_lt, tI_le, tI_eq, tI_add, tI_sub, tI_mul, tI_nat, Int32.reduceToInt, Int.reduceToNat, fe_0, fe_1, fe_2, fe_3, fe_4, fe_5]) <;> (try simp (disch := omega) only [tI_bm]) <;> omega)
    rw [tI_nat]; omega
  constructor
  · intro hx LL hL
    unfold f_X2_joinEnds f_X2_joinEnds_10
    rw [if_neg (by rw [hx]; decide), e1, e2]
    refine pc_bad (fun _ => pc_bad (fun _ => pc_bind (pc_ok (GI_J (a, a + 1) _ _ _ _ _ _ _ _ _ _ h ?_ ?_ ?_ ?_ hl hx hx)) (fun r hr => pc_some (by rw [hL]; exact hr))))
    · show _ = ((nuX c_netlist_netOf a : Nat) : Int); rw [v1]; omega
    · show _ = ((nuX c_netlist_netOf (a + 1) : Nat) : Int); rw [v2]; omega
    · show nuX c_netlist_netOf a < nn; rw [v1]; omega
    · show nuX c_netlist_netOf (a + 1) < nn; rw [v2]; omega
  · intro hx
    unfold f_X2_joinEnds f_X2_joinEnds_10
    rw [if_pos hx, e1, e2]
    refine pc_bad (fun _ => pc_bad (fun _ => pc_bind (pc_ok (GI_D (a, a + 1) _ _ _ _ _ _ _ _ _ _ h ?_ ?_ ?_ ?_ hl hx rfl)) (fun r hr => pc_some hr)))
    · show _ = ((nuX c_netlist_netOf a : Nat) : Int); rw [v1]; omega
    · show _ = ((nuX c_netlist_netOf (a + 1) : Nat) : Int); rw [v2]; omega
    · show nuX c_netlist_netOf a < nn; rw [v1]; omega
    · show nuX c_netlist_netOf (a + 1) < nn; rw [v2]; omega
