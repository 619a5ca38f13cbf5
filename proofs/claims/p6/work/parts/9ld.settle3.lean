/-! the class's settling, whole -/
set_option maxHeartbeats 400000 in
theorem lst_1 {nn m : Nat} {src dst : Nat → Nat} {lt : Nat → Int32} {ν : Nat → Nat} {JL DL : PL} {ex : Nat → Prop} {st : Nat} {C : Nat → Prop} (g : GOK m src dst lt ν JL DL) (hJ : inPL ex JL) (hD : inPL ex DL) (hν : ∀ e, ex e → ν e < nn) (hs : ex st) (c0 : C (ν st)) (c1 : ∀ i, i < m → ¬ lt i &&& 1 = 0 → C (src i) → C (dst i)) (c2 : ∀ T : Nat → Prop, T (ν st) → (∀ i, i < m → ¬ lt i &&& 1 = 0 → T (src i) → T (dst i)) → ∀ u, u < nn → C u → T u) : LST st (fun e f => ex e ∧ ex f ∧ ν e = ν f) JL DL ex (fun e => C (ν e)) := by
  obtain ⟨g1, g2, g3⟩ := g
  refine ⟨⟨c0, fun e f q hc => by
    show C (ν f)
    rw [← q.2.2]; exact hc, fun p hp => ?_, fun p hp => ?_⟩, fun T' hT e he hc => ?_⟩
  · rcases g1 p hp with q | ⟨⟨i, i1, i2, i3, i4⟩, ⟨j, j1, j2, j3, j4⟩⟩
    · show (C (ν p.1) → C (ν p.2)) ∧ (C (ν p.2) → C (ν p.1))
      rw [q]; exact ⟨id, id⟩
    · refine ⟨fun z => ?_, fun z => ?_⟩
      · have := c1 i i1 (by rw [i4]; decide) (by rw [i2]; exact z)
        rw [i3] at this; exact this
      · have := c1 j j1 (by rw [j4]; decide) (by rw [j2]; exact z)
        rw [j3] at this; exact this
  · rcases g2 p hp with q | ⟨⟨i, i1, i2, i3, i4⟩, -⟩
    · show C (ν p.1) → C (ν p.2)
      rw [q]; exact id
    · intro z
      have := c1 i i1 (by rw [i4]; decide) (by rw [i2]; exact z)
      rw [i3] at this; exact this
  · obtain ⟨t0, t1, t2, t3⟩ := hT
    have key : ∀ i, i < m → ¬ lt i &&& 1 = 0 → (∃ f, ex f ∧ ν f = src i ∧ T' f) → ∃ f, ex f ∧ ν f = dst i ∧ T' f := by
      intro i hi hl
      rintro ⟨f, f1, f2, f3⟩
      rcases g3 i hi with ⟨-, p, hp, q⟩ | ⟨-, p, hp, q1, q2⟩ | ⟨a, -⟩
      · rcases q with ⟨q1, q2⟩ | ⟨q1, q2⟩
        · exact ⟨p.2, (hJ p hp).2, q2.symm, (t2 p hp).1 (t1 f p.1 ⟨f1, (hJ p hp).1, f2.trans q1⟩ f3)⟩
        · exact ⟨p.1, (hJ p hp).1, q2.symm, (t2 p hp).2 (t1 f p.2 ⟨f1, (hJ p hp).2, f2.trans q1⟩ f3)⟩
      · exact ⟨p.2, (hD p hp).2, q2.symm, t3 p hp (t1 f p.1 ⟨f1, (hD p hp).1, f2.trans q1⟩ f3)⟩
      · rw [a] at hl; exact absurd (by decide) hl
    obtain ⟨f, f1, f2, f3⟩ := c2 (fun u => ∃ f, ex f ∧ ν f = u ∧ T' f) ⟨st, hs, rfl, t0⟩ key (ν e) (hν e he) hc
    exact t1 f e ⟨f1, he, f2⟩ f3
set_option maxHeartbeats 400000 in
theorem lst_2 {nn m : Nat} {src dst : Nat → Nat} {lt : Nat → Int32} {ν : Nat → Nat} {JL DL : PL} {ex : Nat → Prop} {st : Nat} {C : Nat → Prop} (g : GOK m src dst lt ν JL DL) (hJ : inPL ex JL) (hD : inPL ex DL) (hν : ∀ e, ex e → ν e < nn) (hs : ex st) (c0 : C (ν st)) (c1 : ∀ i, i < m → ¬ lt i &&& 2 = 0 → C (src i) → C (dst i)) (c2 : ∀ T : Nat → Prop, T (ν st) → (∀ i, i < m → ¬ lt i &&& 2 = 0 → T (src i) → T (dst i)) → ∀ u, u < nn → C u → T u) : LST st (fun e f => ex e ∧ ex f ∧ ν e = ν f) JL (rvL DL) ex (fun e => C (ν e)) := by
  obtain ⟨g1, g2, g3⟩ := g
  refine ⟨⟨c0, fun e f q hc => by
    show C (ν f)
    rw [← q.2.2]; exact hc, fun p hp => ?_, fun p hp => ?_⟩, fun T' hT e he hc => ?_⟩
  · rcases g1 p hp with q | ⟨⟨i, i1, i2, i3, i4⟩, ⟨j, j1, j2, j3, j4⟩⟩
    · show (C (ν p.1) → C (ν p.2)) ∧ (C (ν p.2) → C (ν p.1))
      rw [q]; exact ⟨id, id⟩
    · refine ⟨fun z => ?_, fun z => ?_⟩
      · have := c1 i i1 (by rw [i4]; decide) (by rw [i2]; exact z)
        rw [i3] at this; exact this
      · have := c1 j j1 (by rw [j4]; decide) (by rw [j2]; exact z)
        rw [j3] at this; exact this
  · obtain ⟨q9, hq, rfl⟩ := List.mem_map.mp hp
    rcases g2 q9 hq with q | ⟨-, ⟨i, i1, i2, i3, i4⟩⟩
    · show C (ν q9.2) → C (ν q9.1)
      rw [q]; exact id
    · intro z
      have := c1 i i1 (by rw [i4]; decide) (by rw [i2]; exact z)
      rw [i3] at this; exact this
  · obtain ⟨t0, t1, t2, t3⟩ := hT
    have t3' : ∀ p ∈ DL, T' p.2 → T' p.1 := fun p hp => t3 (p.2, p.1) (List.mem_map.mpr ⟨p, hp, rfl⟩)
    have key : ∀ i, i < m → ¬ lt i &&& 2 = 0 → (∃ f, ex f ∧ ν f = src i ∧ T' f) → ∃ f, ex f ∧ ν f = dst i ∧ T' f := by
      intro i hi hl
      rintro ⟨f, f1, f2, f3⟩
      rcases g3 i hi with ⟨-, p, hp, q⟩ | ⟨a, -⟩ | ⟨-, p, hp, q1, q2⟩
      · rcases q with ⟨q1, q2⟩ | ⟨q1, q2⟩
        · exact ⟨p.2, (hJ p hp).2, q2.symm, (t2 p hp).1 (t1 f p.1 ⟨f1, (hJ p hp).1, f2.trans q1⟩ f3)⟩
        · exact ⟨p.1, (hJ p hp).1, q2.symm, (t2 p hp).2 (t1 f p.2 ⟨f1, (hJ p hp).2, f2.trans q1⟩ f3)⟩
      · rw [a] at hl; exact absurd (by decide) hl
      · exact ⟨p.1, (hD p hp).1, q2.symm, t3' p hp (t1 f p.2 ⟨f1, (hD p hp).2, f2.trans q1⟩ f3)⟩
    obtain ⟨f, f1, f2, f3⟩ := c2 (fun u => ∃ f, ex f ∧ ν f = u ∧ T' f) ⟨st, hs, rfl, t0⟩ key (ν e) (hν e he) hc
    exact t1 f e ⟨f1, he, f2⟩ f3
def bitP (P : Nat → Int32) (w : Int32) (ν : Nat → Nat) (e : Nat) : Prop := ¬ P (ν e) &&& w = 0
def SETP (nn : Nat) (ex : Nat → Prop) (ν : Nat → Nat) (JL DL : PL) (nets : Int32) (P : Nat → Int32) : Prop := nets.toInt = nn ∧ (∀ u, u < nn → P u = 0 ∨ P u = 1 ∨ P u = 2 ∨ P u = 3) ∧ LST 0 (fun e f => ex e ∧ ex f ∧ ν e = ν f) JL DL ex (bitP P 1 ν) ∧ LST 1 (fun e f => ex e ∧ ex f ∧ ν e = ν f) JL (rvL DL) ex (bitP P 2 ν)
def isOnB (per on_ time : Int32) : Bool := decide (0 < per.toInt ∧ (xrem time per).toInt < on_.toInt)
def keyB (keys : Int32) (k : Nat) : Bool := decide (¬ (xshr keys (Int32.ofNat k)) &&& 1 = 0)
/-! the ends that there are, by the counts -/
def exN (R K L C D : Nat) (nk : Nat → Nat) (e : Nat) : Prop := e < 2 ∨ (∃ r k, r < R ∧ k < 2 + 3 * nk r ∧ e = 2 + 20 * r + k) ∨ (∃ i k, i < K ∧ k < 2 ∧ e = 802 + 2 * i + k) ∨ (∃ i k, i < L ∧ k < 2 ∧ e = 850 + 2 * i + k) ∨ (∃ i k, i < C ∧ k < 2 ∧ e = 898 + 2 * i + k) ∨ (∃ i k, i < D ∧ k < 2 ∧ e = 906 + 2 * i + k)
set_option maxHeartbeats 400000 in
theorem exN_0 {R K L C D : Nat} {nk : Nat → Nat} : exN R K L C D nk 0 ∧ exN R K L C D nk 1 := ⟨.inl (by decide), .inl (by decide)⟩
set_option maxHeartbeats 400000 in
theorem accF_in {P : Nat → Prop} (g : Nat → Bool) (b : Nat) : ∀ k, (∀ i, i < k → P (b + 2 * i) ∧ P (b + 2 * i + 1)) → inPL P (accF g b k)
  | 0, _ => fun p hp => absurd hp (List.not_mem_nil)
  | k + 1, h => by
    unfold accF
    refine inPL_app (fun p hp => ?_) (accF_in g b k (fun i hi => h i (by omega)))
    by_cases z : g k = true
    · rw [if_pos z] at hp
      rw [List.mem_singleton.mp hp]
      exact h k (by omega)
    · rw [if_neg z] at hp; exact absurd hp (List.not_mem_nil)
set_option maxHeartbeats 400000 in
theorem g_163 (c_netlist_nets : Int32) (c_netlist_parts : Nat → Int32) (c_netlist_contacts : Nat → Int32) (c_netlist_makes : Nat → Int32) (c_netlist_period : Nat → Int32) (c_netlist_onTime : Nat → Int32) (c_netlist_netOf : Nat → Int32) (c_wear_stuckAt : Nat → Int32) (c_wear_dusty : Nat → Int32) (c_p1_keys : Int32) (c_p1_time : Int32) (c_p1_positions : Nat → Int32) {nn R K L C D : Nat} {nk : Nat → Nat} (hN : NXI nn c_netlist_netOf (exN R K L C D nk)) (hnn : nn ≤ 954) (pR : (c_netlist_parts 0).toInt = R) (pK : (c_netlist_parts 1).toInt = K) (pC : (c_netlist_parts 3).toInt = C) (pD : (c_netlist_parts 4).toInt = D) (bR : R ≤ 40) (bK : K ≤ 24) (bC : C ≤ 4) (bD : D ≤ 24) (hk6 : ∀ r, nk r ≤ 6) (hnk : ∀ r, r < R → (c_netlist_contacts r).toInt = nk r) {JL : PL} (hJ : inPL (exN R K L C D nk) JL) (hJl : JL.length ≤ 560) : ∀ (n : Nat) (x2 : Int32) (c_ways_nets : Int32) (c_ways_links : Int32) (c_ways_firstLink : Nat → Int32) (c_ways_nextLink : Nat → Int32) (c_ways_leadsTo : Nat → Int32) (c_ways_lets : Nat → Int32) (c_ways_powers : Nat → Int32) (c_ways_reached : Nat → Int32) (d : Nat) (DL : PL), x2.toInt = d → d ≤ D → DL = accF (fun _ => true) 906 d → GI nn (nuX c_netlist_netOf) JL DL c_ways_nets c_ways_links c_ways_firstLink c_ways_nextLink c_ways_leadsTo c_ways_lets → (∀ u, u < nn → c_ways_powers u = 0) → Pc (f_X2_settle_163 c_netlist_nets c_netlist_parts c_netlist_contacts c_netlist_makes c_netlist_period c_netlist_onTime c_netlist_netOf c_wear_stuckAt c_wear_dusty c_p1_keys c_p1_time c_p1_positions n x2 c_ways_nets c_ways_links c_ways_firstLink c_ways_nextLink c_ways_leadsTo c_ways_lets c_ways_powers c_ways_reached) (fun r => SETP nn (exN R K L C D nk) (nuX c_netlist_netOf) JL (accF (fun _ => true) 906 D) r.1 r.2.2.2.2.2.2.1)
  | 0, x2, c_ways_nets, c_ways_links, c_ways_firstLink, c_ways_nextLink, c_ways_leadsTo, c_ways_lets, c_ways_powers, c_ways_reached, d, DL, hd, h1, hDL, hG, hP => pc_none
  | n + 1, x2, c_ways_nets, c_ways_links, c_ways_firstLink, c_ways_nextLink, c_ways_leadsTo, c_ways_lets, c_ways_powers, c_ways_reached, d, DL, hd, h1, hDL, hG, hP => by
    unfold f_X2_settle_163
    have lD : DL.length ≤ d := by rw [hDL]; exact accF_len _ _ _
    refine pc_bad (fun _ => ?_)
    rw [show (4 : Int32).toNatClampNeg = 4 from by decide]
    refine pc_if (fun a => ?_) (fun a => ?_)
    · rw [tI_le] at a
      have dD : d = D := by omega
      subst dD
      have hD : inPL (exN R K L C d nk) DL := by
        rw [hDL]
        exact accF_in _ _ _ (fun i hi => ⟨.inr (.inr (.inr (.inr (.inr ⟨i, 0, hi, by decide, by omega⟩)))), .inr (.inr (.inr (.inr (.inr ⟨i, 1, hi, by decide, by omega⟩))))⟩)
      obtain ⟨m, src, dst, lt, w, hm, g⟩ := hG
      have hν : ∀ e, exN R K L C d nk e → nuX c_netlist_netOf e < nn := fun e he => by
        obtain ⟨-, q1, q2⟩ := hN e he
        unfold nuX; omega
      refine pc_bad (fun _ => pc_bad (fun _ => ?_))
      rw [show (cFE (5 : Int32).toNatClampNeg).toNatClampNeg = 952 from by decide]
      obtain ⟨-, a1, a2⟩ := hN 0 exN_0.1
      obtain ⟨-, b1, b2⟩ := hN 1 exN_0.2
      have v0 : nuX c_netlist_netOf 0 = (c_netlist_netOf 952).toInt.toNat := rfl
      have v1 : nuX c_netlist_netOf 1 = (c_netlist_netOf 953).toInt.toNat := rfl
      rw [show (0 + 952) % 954 = 952 from rfl] at a1 a2
      rw [show (1 + 952) % 954 = 953 from rfl] at b1 b2
      refine pc_bind (pc_ok (g_spread _ _ _ _ _ _ _ _ _ _ w (nuX c_netlist_netOf 0) (by rw [v0]; omega) (by rw [v0]; omega) (fun e he => by rw [hP e he]; decide))) (fun r4 q4 => ?_)
      obtain ⟨k1, k2, k3, k4⟩ := q4
      have p4 : ∀ u, u < nn → r4.1 u = 0 ∨ r4.1 u = 1 := fun u hu => by
        obtain ⟨-, -, z⟩ := k1 u hu
        rw [hP u hu] at z
        rcases z with z | z
        · exact .inl z
        · exact .inr (by rw [z]; decide)
      refine pc_bad (fun _ => pc_bad (fun _ => ?_))
      rw [show ((cFE (5 : Int32).toNatClampNeg) + 1).toNatClampNeg = 953 from by decide]
      refine pc_bind (pc_ok (g_spread _ _ _ _ _ _ _ _ _ _ w (nuX c_netlist_netOf 1) (by rw [v1]; omega) (by rw [v1]; omega) (fun e he => by rcases p4 e he with z | z <;> rw [z] <;> decide))) (fun r7 q7 => pc_some ?_)
      obtain ⟨l1, l2, l3, l4⟩ := q7
      have p7 : ∀ u, u < nn → (r4.1 u = 0 ∧ (r7.1 u = 0 ∨ r7.1 u = 2)) ∨ (r4.1 u = 1 ∧ (r7.1 u = 1 ∨ r7.1 u = 3)) := fun u hu => by
        obtain ⟨-, -, z⟩ := l1 u hu
        rcases p4 u hu with y | y
        · rw [y] at z
          refine .inl ⟨y, ?_⟩
          rcases z with z | z
          · exact .inl z
          · exact .inr (by rw [z]; decide)
        · rw [y] at z
          refine .inr ⟨y, ?_⟩
          rcases z with z | z
          · exact .inl z
          · exact .inr (by rw [z]; decide)
      have bit1 : ∀ u, u < nn → (mk2 r7.1 1 u ↔ mk2 r4.1 1 u) := fun u hu => by
        unfold mk2
        rcases p7 u hu with ⟨y, z | z⟩ | ⟨y, z | z⟩ <;> rw [y, z] <;> decide
      have sdn : ∀ i, i < m → src i < nn ∧ dst i < nn := fun i hi => ⟨(w.2.2.2.2.2 i hi).2.2.2.1, (w.2.2.2.2.2 i hi).2.2.2.2⟩
      rw [hDL] at g hD
      refine ⟨w.1, fun u hu => ?_, lst_1 (nn := nn) (C := mk2 r7.1 1) g hJ hD hν exN_0.1 ?_ (fun i hi hl hc => ?_) (fun T hT hc u hu hm2 => ?_), lst_2 (nn := nn) (C := mk2 r7.1 2) g hJ hD hν exN_0.2 l4 l2 l3⟩
      · rcases p7 u hu with ⟨y, z | z⟩ | ⟨y, z | z⟩
        · exact .inl z
        · exact .inr (.inr (.inl z))
        · exact .inr (.inl z)
        · exact .inr (.inr (.inr z))
      · exact (bit1 _ (hν 0 exN_0.1)).mpr k4
      · exact (bit1 _ (sdn i hi).2).mpr (k2 i hi hl ((bit1 _ (sdn i hi).1).mp hc))
      · exact k3 T hT hc u hu ((bit1 u hu).mp hm2)
    · rw [tI_le] at a
      refine pc_bad (fun _ => ?_)
      have ea : ((cFE (4 : Int32).toNatClampNeg) + ((2 : Int32) * x2)).toInt = ((906 + 2 * d - 2 : Nat) : Int) := by ((try simp only [tI_lt, tI_le, tI_eq, tI_add, tI_sub, tI_mul, tI_nat, Int32.reduceToInt, Int.reduceToNat, fe_0, fe_1, fe_2, fe_3, fe_4, fe_5]) <;> (try simp (disch := omega) only [tI_bm]) <;> omega)
      have exd : exN R K L C D nk (906 + 2 * d) ∧ exN R K L C D nk (906 + 2 * d + 1) := ⟨.inr (.inr (.inr (.inr (.inr ⟨d, 0, by omega, by decide, by omega⟩)))), .inr (.inr (.inr (.inr (.inr ⟨d, 1, by omega, by decide, by omega⟩))))⟩
      refine pc_bind ((g_ends (906 + 2 * d) _ _ _ _ _ _ _ _ _ hG hN exd (by omega) ea (by omega)).2 rfl) (fun r9 h9 => pc_vlet ?_)
      refine g_163 c_netlist_nets c_netlist_parts c_netlist_contacts c_netlist_makes c_netlist_period c_netlist_onTime c_netlist_netOf c_wear_stuckAt c_wear_dusty c_p1_keys c_p1_time c_p1_positions hN hnn pR pK pC pD bR bK bC bD hk6 hnk hJ hJl n _ _ _ _ _ _ _ _ _ (d + 1) ((906 + 2 * d, 906 + 2 * d + 1) :: DL) (by ((try simp only [tI_lt, tI_le, tI_eq, tI_add, tI_sub, tI_mul, tI_nat, Int32.reduceToInt, Int.reduceToNat, fe_0, fe_1, fe_2, fe_3, fe_4, fe_5]) <;> (try simp (disch := omega) only [tI_bm]) <;> omega)) (by omega) ?_ h9 hP
      rw [hDL]; rfl
set_option maxHeartbeats 400000 in
theorem g_113 (c_netlist_nets : Int32) (c_netlist_parts : Nat → Int32) (c_netlist_contacts : Nat → Int32) (c_netlist_makes : Nat → Int32) (c_netlist_period : Nat → Int32) (c_netlist_onTime : Nat → Int32) (c_netlist_netOf : Nat → Int32) (c_wear_stuckAt : Nat → Int32) (c_wear_dusty : Nat → Int32) (c_p1_keys : Int32) (c_p1_time : Int32) (c_p1_positions : Nat → Int32) {nn R K L C D : Nat} {nk : Nat → Nat} (hN : NXI nn c_netlist_netOf (exN R K L C D nk)) (hnn : nn ≤ 954) (pR : (c_netlist_parts 0).toInt = R) (pK : (c_netlist_parts 1).toInt = K) (pC : (c_netlist_parts 3).toInt = C) (pD : (c_netlist_parts 4).toInt = D) (bR : R ≤ 40) (bK : K ≤ 24) (bC : C ≤ 4) (bD : D ≤ 24) (hk6 : ∀ r, nk r ≤ 6) (hnk : ∀ r, r < R → (c_netlist_contacts r).toInt = nk r) {J0 : PL} (hJ : inPL (exN R K L C D nk) J0) (hJl : J0.length ≤ 550) : ∀ (n : Nat) (x2 : Int32) (c_ways_nets : Int32) (c_ways_links : Int32) (c_ways_firstLink : Nat → Int32) (c_ways_nextLink : Nat → Int32) (c_ways_leadsTo : Nat → Int32) (c_ways_lets : Nat → Int32) (c_ways_powers : Nat → Int32) (c_ways_reached : Nat → Int32) (c : Nat) (JC : PL), x2.toInt = c → c ≤ C → JC = accF (fun i => isOnB (c_netlist_period i) (c_netlist_onTime i) c_p1_time) 898 c ++ J0 → GI nn (nuX c_netlist_netOf) JC [] c_ways_nets c_ways_links c_ways_firstLink c_ways_nextLink c_ways_leadsTo c_ways_lets → (∀ u, u < nn → c_ways_powers u = 0) → ∀ JL, JL = accF (fun i => isOnB (c_netlist_period i) (c_netlist_onTime i) c_p1_time) 898 C ++ J0 → Pc (f_X2_settle_113 c_netlist_nets c_netlist_parts c_netlist_contacts c_netlist_makes c_netlist_period c_netlist_onTime c_netlist_netOf c_wear_stuckAt c_wear_dusty c_p1_keys c_p1_time c_p1_positions n x2 c_ways_nets c_ways_links c_ways_firstLink c_ways_nextLink c_ways_leadsTo c_ways_lets c_ways_powers c_ways_reached) (fun r => SETP nn (exN R K L C D nk) (nuX c_netlist_netOf) JL (accF (fun _ => true) 906 D) r.1 r.2.2.2.2.2.2.1)
  | 0, x2, c_ways_nets, c_ways_links, c_ways_firstLink, c_ways_nextLink, c_ways_leadsTo, c_ways_lets, c_ways_powers, c_ways_reached, c, JC, hc, h1, hJC, hG, hP, JL, hJL => pc_none
  | n + 1, x2, c_ways_nets, c_ways_links, c_ways_firstLink, c_ways_nextLink, c_ways_leadsTo, c_ways_lets, c_ways_powers, c_ways_reached, c, JC, hc, h1, hJC, hG, hP, JL, hJL => by
    unfold f_X2_settle_113
    have lC : JC.length ≤ c + J0.length := by rw [hJC, List.length_append]; have := accF_len (fun i => isOnB (c_netlist_period i) (c_netlist_onTime i) c_p1_time) 898 c; omega
    have exc : ∀ i, i < C → exN R K L C D nk (898 + 2 * i) ∧ exN R K L C D nk (898 + 2 * i + 1) := fun i hi => ⟨.inr (.inr (.inr (.inr (.inl ⟨i, 0, hi, by decide, by omega⟩)))), .inr (.inr (.inr (.inr (.inl ⟨i, 1, hi, by decide, by omega⟩))))⟩
    refine pc_bad (fun _ => ?_)
    rw [show (3 : Int32).toNatClampNeg = 3 from by decide]
    refine pc_if (fun a => ?_) (fun a => ?_)
    · rw [tI_le] at a
      have cC : c = C := by omega
      subst cC
      rw [hJL, ← hJC]
      refine g_163 c_netlist_nets c_netlist_parts c_netlist_contacts c_netlist_makes c_netlist_period c_netlist_onTime c_netlist_netOf c_wear_stuckAt c_wear_dusty c_p1_keys c_p1_time c_p1_positions hN hnn pR pK pC pD bR bK bC bD hk6 hnk ?_ (by omega) FU _ _ _ _ _ _ _ _ _ 0 [] (by decide) (Nat.zero_le _) rfl hG hP
      rw [hJC]
      exact inPL_app (accF_in _ _ _ exc) hJ
    · rw [tI_le] at a
      unfold f_X3_isOn
      have ec : x2.toNatClampNeg = c := by rw [tI_nat]; omega
      rw [ec]
      refine pc_bind (P := fun q => (q = 0 ∧ isOnB (c_netlist_period c) (c_netlist_onTime c) c_p1_time = false) ∨ (¬ q = 0 ∧ isOnB (c_netlist_period c) (c_netlist_onTime c) c_p1_time = true)) (pc_bad (fun _ => pc_if (fun z => pc_some (.inl ⟨rfl, ?_⟩)) (fun z => pc_bad (fun _ => pc_if (fun _ => pc_none) (fun _ => pc_bad (fun _ => pc_if (fun y => pc_some (.inl ⟨rfl, ?_⟩)) (fun y => pc_some (.inr ⟨by decide, ?_⟩)))))))) (fun r2 h2 => ?_)
      · rw [tI_le, l_0] at z
        unfold isOnB; rw [decide_eq_false_iff_not]; exact fun w => by omega
      · rw [tI_le] at y
        unfold isOnB; rw [decide_eq_false_iff_not]; exact fun w => by omega
      · rw [tI_le, l_0] at z
        rw [tI_le] at y
        unfold isOnB; rw [decide_eq_true_eq]; omega
      · have e2 : (x2 + 1).toInt = ((c + 1 : Nat) : Int) := by ((try simp only [tI_lt, tI_le, tI_eq, tI_add, tI_sub, tI_mul, tI_nat, Int32.reduceToInt, Int.reduceToNat, fe_0, fe_1, fe_2, fe_3, fe_4, fe_5]) <;> (try simp (disch := omega) only [tI_bm]) <;> omega)
        unfold f_X2_settle_155
        rcases h2 with ⟨q1, q2⟩ | ⟨q1, q2⟩
        · rw [if_pos q1]
          refine pc_vlet (g_113 c_netlist_nets c_netlist_parts c_netlist_contacts c_netlist_makes c_netlist_period c_netlist_onTime c_netlist_netOf c_wear_stuckAt c_wear_dusty c_p1_keys c_p1_time c_p1_positions hN hnn pR pK pC pD bR bK bC bD hk6 hnk hJ hJl n _ _ _ _ _ _ _ _ _ (c + 1) JC e2 (by omega) ?_ hG hP JL hJL)
          rw [hJC]
          show _ = ((if isOnB (c_netlist_period c) (c_netlist_onTime c) c_p1_time = true then [(898 + 2 * c, 898 + 2 * c + 1)] else []) ++ accF _ 898 c) ++ J0
          rw [if_neg (by rw [q2]; decide), List.nil_append]
        · rw [if_neg q1]
          refine pc_bad (fun _ => ?_)
          have ea : ((cFE (3 : Int32).toNatClampNeg) + ((2 : Int32) * x2)).toInt = ((898 + 2 * c - 2 : Nat) : Int) := by ((try simp only [tI_lt, tI_le, tI_eq, tI_add, tI_sub, tI_mul, tI_nat, Int32.reduceToInt, Int.reduceToNat, fe_0, fe_1, fe_2, fe_3, fe_4, fe_5]) <;> (try simp (disch := omega) only [tI_bm]) <;> omega)
          refine pc_bind ((g_ends (898 + 2 * c) _ _ _ _ _ _ _ _ _ hG hN (exc c (by omega)) (by omega) ea (by rw [List.length_nil]; omega)).1 rfl _ rfl) (fun r4 h4 => pc_vlet ?_)
          refine g_113 c_netlist_nets c_netlist_parts c_netlist_contacts c_netlist_makes c_netlist_period c_netlist_onTime c_netlist_netOf c_wear_stuckAt c_wear_dusty c_p1_keys c_p1_time c_p1_positions hN hnn pR pK pC pD bR bK bC bD hk6 hnk hJ hJl n _ _ _ _ _ _ _ _ _ (c + 1) ((898 + 2 * c, 898 + 2 * c + 1) :: JC) e2 (by omega) ?_ h4 hP JL hJL
          rw [hJC]
          show _ = ((if isOnB (c_netlist_period c) (c_netlist_onTime c) c_p1_time = true then [(898 + 2 * c, 898 + 2 * c + 1)] else []) ++ accF _ 898 c) ++ J0
          rw [if_pos q2]; rfl
set_option maxHeartbeats 400000 in
theorem g_70 (c_netlist_nets : Int32) (c_netlist_parts : Nat → Int32) (c_netlist_contacts : Nat → Int32) (c_netlist_makes : Nat → Int32) (c_netlist_period : Nat → Int32) (c_netlist_onTime : Nat → Int32) (c_netlist_netOf : Nat → Int32) (c_wear_stuckAt : Nat → Int32) (c_wear_dusty : Nat → Int32) (c_p1_keys : Int32) (c_p1_time : Int32) (c_p1_positions : Nat → Int32) {nn R K L C D : Nat} {nk : Nat → Nat} (hN : NXI nn c_netlist_netOf (exN R K L C D nk)) (hnn : nn ≤ 954) (pR : (c_netlist_parts 0).toInt = R) (pK : (c_netlist_parts 1).toInt = K) (pC : (c_netlist_parts 3).toInt = C) (pD : (c_netlist_parts 4).toInt = D) (bR : R ≤ 40) (bK : K ≤ 24) (bC : C ≤ 4) (bD : D ≤ 24) (hk6 : ∀ r, nk r ≤ 6) (hnk : ∀ r, r < R → (c_netlist_contacts r).toInt = nk r) {J0 : PL} (hJ : inPL (exN R K L C D nk) J0) (hJl : J0.length ≤ 520) : ∀ (n : Nat) (x2 : Int32) (c_ways_nets : Int32) (c_ways_links : Int32) (c_ways_firstLink : Nat → Int32) (c_ways_nextLink : Nat → Int32) (c_ways_leadsTo : Nat → Int32) (c_ways_lets : Nat → Int32) (c_ways_powers : Nat → Int32) (c_ways_reached : Nat → Int32) (k : Nat) (JC : PL), x2.toInt = k → k ≤ K → JC = accF (keyB c_p1_keys) 802 k ++ J0 → GI nn (nuX c_netlist_netOf) JC [] c_ways_nets c_ways_links c_ways_firstLink c_ways_nextLink c_ways_leadsTo c_ways_lets → (∀ u, u < nn → c_ways_powers u = 0) → ∀ JL, JL = accF (fun i => isOnB (c_netlist_period i) (c_netlist_onTime i) c_p1_time) 898 C ++ (accF (keyB c_p1_keys) 802 K ++ J0) → Pc (f_X2_settle_70 c_netlist_nets c_netlist_parts c_netlist_contacts c_netlist_makes c_netlist_period c_netlist_onTime c_netlist_netOf c_wear_stuckAt c_wear_dusty c_p1_keys c_p1_time c_p1_positions n x2 c_ways_nets c_ways_links c_ways_firstLink c_ways_nextLink c_ways_leadsTo c_ways_lets c_ways_powers c_ways_reached) (fun r => SETP nn (exN R K L C D nk) (nuX c_netlist_netOf) JL (accF (fun _ => true) 906 D) r.1 r.2.2.2.2.2.2.1)
  | 0, x2, c_ways_nets, c_ways_links, c_ways_firstLink, c_ways_nextLink, c_ways_leadsTo, c_ways_lets, c_ways_powers, c_ways_reached, k, JC, hc, h1, hJC, hG, hP, JL, hJL => pc_none
  | n + 1, x2, c_ways_nets, c_ways_links, c_ways_firstLink, c_ways_nextLink, c_ways_leadsTo, c_ways_lets, c_ways_powers, c_ways_reached, k, JC, hc, h1, hJC, hG, hP, JL, hJL => by
    unfold f_X2_settle_70
    have lC : JC.length ≤ k + J0.length := by rw [hJC, List.length_append]; have := accF_len (keyB c_p1_keys) 802 k; omega
    have exc : ∀ i, i < K → exN R K L C D nk (802 + 2 * i) ∧ exN R K L C D nk (802 + 2 * i + 1) := fun i hi => ⟨.inr (.inr (.inl ⟨i, 0, hi, by decide, by omega⟩)), .inr (.inr (.inl ⟨i, 1, hi, by decide, by omega⟩))⟩
    refine pc_bad (fun _ => ?_)
    rw [show (1 : Int32).toNatClampNeg = 1 from by decide]
    refine pc_if (fun a => ?_) (fun a => ?_)
    · rw [tI_le] at a
      have cC : k = K := by omega
      subst cC
      rw [← hJC] at hJL
      refine g_113 c_netlist_nets c_netlist_parts c_netlist_contacts c_netlist_makes c_netlist_period c_netlist_onTime c_netlist_netOf c_wear_stuckAt c_wear_dusty c_p1_keys c_p1_time c_p1_positions hN hnn pR pK pC pD bR bK bC bD hk6 hnk (J0 := JC) ?_ (by omega) FU _ _ _ _ _ _ _ _ _ 0 JC (by decide) (Nat.zero_le _) rfl hG hP JL hJL
      rw [hJC]
      exact inPL_app (accF_in _ _ _ exc) hJ
    · rw [tI_le] at a
      unfold f_X6_isDown
      have ek : x2 = Int32.ofNat k := Int32.toInt_inj.mp (by rw [Int32.toInt_ofNat_of_lt (by omega)]; omega)
      refine pc_bind (P := fun q => (q = 0 ∧ keyB c_p1_keys k = false) ∨ (¬ q = 0 ∧ keyB c_p1_keys k = true)) (pc_if (fun z => pc_some (.inl ⟨rfl, ?_⟩)) (fun z => pc_some (.inr ⟨by decide, ?_⟩))) (fun r2 h2 => ?_)
      · rw [ek] at z
        unfold keyB; rw [decide_eq_false_iff_not]; exact fun w => w z
      · rw [ek] at z
        unfold keyB; rw [decide_eq_true_eq]; exact z
      · have e2 : (x2 + 1).toInt = ((k + 1 : Nat) : Int) := by ((try simp only [tI_lt, tI_le, tI_eq, tI_add, tI_sub, tI_mul, tI_nat, Int32.reduceToInt, Int.reduceToNat, fe_0, fe_1, fe_2, fe_3, fe_4, fe_5]) <;> (try simp (disch := omega) only [tI_bm]) <;> omega)
        unfold f_X2_settle_105
        rcases h2 with ⟨q1, q2⟩ | ⟨q1, q2⟩
        · rw [if_pos q1]
          refine pc_vlet (g_70 c_netlist_nets c_netlist_parts c_netlist_contacts c_netlist_makes c_netlist_period c_netlist_onTime c_netlist_netOf c_wear_stuckAt c_wear_dusty c_p1_keys c_p1_time c_p1_positions hN hnn pR pK pC pD bR bK bC bD hk6 hnk hJ hJl n _ _ _ _ _ _ _ _ _ (k + 1) JC e2 (by omega) ?_ hG hP JL hJL)
          rw [hJC]
          show _ = ((if keyB c_p1_keys k = true then [(802 + 2 * k, 802 + 2 * k + 1)] else []) ++ accF _ 802 k) ++ J0
          rw [if_neg (by rw [q2]; decide), List.nil_append]
        · rw [if_neg q1]
          refine pc_bad (fun _ => ?_)
          have ea : ((cFE (1 : Int32).toNatClampNeg) + ((2 : Int32) * x2)).toInt = ((802 + 2 * k - 2 : Nat) : Int) := by ((try simp only [tI_lt, tI_le, tI_eq, tI_add, tI_sub, tI_mul, tI_nat, Int32.reduceToInt, Int.reduceToNat, fe_0, fe_1, fe_2, fe_3, fe_4, fe_5]) <;> (try simp (disch := omega) only [tI_bm]) <;> omega)
          refine pc_bind ((g_ends (802 + 2 * k) _ _ _ _ _ _ _ _ _ hG hN (exc k (by omega)) (by omega) ea (by rw [List.length_nil]; omega)).1 rfl _ rfl) (fun r4 h4 => ?_)
          refine pc_vlet (g_70 c_netlist_nets c_netlist_parts c_netlist_contacts c_netlist_makes c_netlist_period c_netlist_onTime c_netlist_netOf c_wear_stuckAt c_wear_dusty c_p1_keys c_p1_time c_p1_positions hN hnn pR pK pC pD bR bK bC bD hk6 hnk hJ hJl n _ _ _ _ _ _ _ _ _ (k + 1) ((802 + 2 * k, 802 + 2 * k + 1) :: JC) e2 (by omega) ?_ h4 hP JL hJL)
          rw [hJC]
          show _ = ((if keyB c_p1_keys k = true then [(802 + 2 * k, 802 + 2 * k + 1)] else []) ++ accF _ 802 k) ++ J0
          rw [if_pos q2]; rfl
set_option maxHeartbeats 400000 in
theorem g_31 (k16 : Int32 → Int32 → Int32 → (Nat → Int32) → (Nat → Int32) → (Nat → Int32) → (Nat → Int32) → (Nat → Int32) → (Nat → Int32) → Option (Int32 × Int32 × (Nat → Int32) × (Nat → Int32) × (Nat → Int32) × (Nat → Int32) × (Nat → Int32) × (Nat → Int32))) (c_netlist_nets : Int32) (c_netlist_parts : Nat → Int32) (c_netlist_contacts : Nat → Int32) (c_netlist_makes : Nat → Int32) (c_netlist_period : Nat → Int32) (c_netlist_onTime : Nat → Int32) (c_netlist_netOf : Nat → Int32) (c_wear_stuckAt : Nat → Int32) (c_wear_dusty : Nat → Int32) (c_p1_keys : Int32) (c_p1_time : Int32) (c_p1_positions : Nat → Int32) {nn R K L C D : Nat} {nk : Nat → Nat} (hN : NXI nn c_netlist_netOf (exN R K L C D nk)) (hnn : nn ≤ 954) (pR : (c_netlist_parts 0).toInt = R) (pK : (c_netlist_parts 1).toInt = K) (pC : (c_netlist_parts 3).toInt = C) (pD : (c_netlist_parts 4).toInt = D) (bR : R ≤ 40) (bK : K ≤ 24) (bC : C ≤ 4) (bD : D ≤ 24) (hk6 : ∀ r, nk r ≤ 6) (hnk : ∀ r, r < R → (c_netlist_contacts r).toInt = nk r) (J0 : PL) (hJ0 : J0.length ≤ 480) (r : Nat) (hr : r < R) (w : Int32) (pw : Nat → Int32) {Q : Int32 × Int32 × (Nat → Int32) × (Nat → Int32) × (Nat → Int32) × (Nat → Int32) × (Nat → Int32) × (Nat → Int32) → Prop} (hk : ∀ (c_ways_links : Int32) (c_ways_firstLink c_ways_nextLink c_ways_leadsTo c_ways_lets c_ways_reached : Nat → Int32), GI nn (nuX c_netlist_netOf) (accC (efX c_netlist_makes c_wear_stuckAt c_wear_dusty c_p1_positions) r (nk r) ++ J0) [] w c_ways_links c_ways_firstLink c_ways_nextLink c_ways_leadsTo c_ways_lets → ∀ y : Int32, y.toInt = r + 1 → Pc (k16 y w c_ways_links c_ways_firstLink c_ways_nextLink c_ways_leadsTo c_ways_lets pw c_ways_reached) Q) : ∀ (n : Nat) (x2 : Int32) (x3 : Int32) (c_ways_nets : Int32) (c_ways_links : Int32) (c_ways_firstLink : Nat → Int32) (c_ways_nextLink : Nat → Int32) (c_ways_leadsTo : Nat → Int32) (c_ways_lets : Nat → Int32) (c_ways_powers : Nat → Int32) (c_ways_reached : Nat → Int32) (c : Nat), x2.toInt = r → x3.toInt = c + 1 → c ≤ nk r → c_ways_nets = w → c_ways_powers = pw → GI nn (nuX c_netlist_netOf) (accC (efX c_netlist_makes c_wear_stuckAt c_wear_dusty c_p1_positions) r c ++ J0) [] c_ways_nets c_ways_links c_ways_firstLink c_ways_nextLink c_ways_leadsTo c_ways_lets → Pc (f_X2_settle_31 k16 c_netlist_nets c_netlist_parts c_netlist_contacts c_netlist_makes c_netlist_period c_netlist_onTime c_netlist_netOf c_wear_stuckAt c_wear_dusty c_p1_keys c_p1_time c_p1_positions n x2 x3 c_ways_nets c_ways_links c_ways_firstLink c_ways_nextLink c_ways_leadsTo c_ways_lets c_ways_powers c_ways_reached) Q
  | 0, x2, x3, c_ways_nets, c_ways_links, c_ways_firstLink, c_ways_nextLink, c_ways_leadsTo, c_ways_lets, c_ways_powers, c_ways_reached, c, h2, h3, h4, e1, e2, hG => pc_none
  | n + 1, x2, x3, c_ways_nets, c_ways_links, c_ways_firstLink, c_ways_nextLink, c_ways_leadsTo, c_ways_lets, c_ways_powers, c_ways_reached, c, h2, h3, h4, e1, e2, hG => by
    unfold f_X2_settle_31
    subst e1 e2
    have er : x2.toNatClampNeg = r := by rw [tI_nat]; omega
    rw [er]
    have n6 := hk6 r
    have nr := hnk r hr
    refine pc_bad (fun _ => pc_if (fun a => ?_) (fun a => ?_))
    · rw [tI_lt] at a
      have : c = nk r := by omega
      subst this
      exact pc_vlet (hk _ _ _ _ _ _ hG _ (by ((try simp only [tI_lt, tI_le, tI_eq, tI_add, tI_sub, tI_mul, tI_nat, Int32.reduceToInt, Int.reduceToNat, fe_0, fe_1, fe_2, fe_3, fe_4, fe_5]) <;> (try simp (disch := omega) only [tI_bm]) <;> omega)))
    · rw [tI_lt] at a
      have e3 : (x3 + 1).toInt = ((c + 1 : Nat) : Int) + 1 := by ((try simp only [tI_lt, tI_le, tI_eq, tI_add, tI_sub, tI_mul, tI_nat, Int32.reduceToInt, Int.reduceToNat, fe_0, fe_1, fe_2, fe_3, fe_4, fe_5]) <;> (try simp (disch := omega) only [tI_bm]) <;> omega)
      have hx : exN R K L C D nk (20 * r + 3 * c + 4) ∧ exN R K L C D nk (20 * r + 3 * c + 5) ∧ exN R K L C D nk (20 * r + 3 * c + 6) := ⟨.inr (.inl ⟨r, 3 * c + 2, hr, by omega, by omega⟩), .inr (.inl ⟨r, 3 * c + 3, hr, by omega, by omega⟩), .inr (.inl ⟨r, 3 * c + 4, hr, by omega, by omega⟩)⟩
      have ll := accC_len (efX c_netlist_makes c_wear_stuckAt c_wear_dusty c_p1_positions) r (efX_len c_netlist_makes c_wear_stuckAt c_wear_dusty c_p1_positions r) c
      refine pc_bad (fun _ => pc_bind (g_contact r c _ _ _ _ _ _ _ _ _ _ _ _ _ c_p1_positions hG hN hx h2 h3 rfl (by omega) (by omega) (by rw [List.length_append, List.length_nil]; omega) (LL := accC (efX c_netlist_makes c_wear_stuckAt c_wear_dusty c_p1_positions) r (c + 1) ++ J0) (by rw [← List.append_assoc]; rfl)) (fun r4 h4' => pc_vlet ?_))
      exact g_31 k16 c_netlist_nets c_netlist_parts c_netlist_contacts c_netlist_makes c_netlist_period c_netlist_onTime c_netlist_netOf c_wear_stuckAt c_wear_dusty c_p1_keys c_p1_time c_p1_positions hN hnn pR pK pC pD bR bK bC bD hk6 hnk J0 hJ0 r hr c_ways_nets c_ways_powers hk n _ _ _ _ _ _ _ _ _ _ (c + 1) h2 e3 (by omega) rfl rfl h4'
set_option maxHeartbeats 400000 in
theorem conE_in {P : Nat → Prop} (mk : Bool) (p : Int) (mid : Nat) (h : P mid ∧ P (mid + 1) ∧ P (mid + 2)) : inPL P (conE mk p mid) := by
  unfold conE
  refine inPL_app (fun q hq => ?_) (fun q hq => ?_)
  · by_cases z : p = 0 ∨ (p = 1 ∧ mk = true)
    · rw [if_pos z] at hq
      rw [List.mem_singleton.mp hq]
      exact ⟨h.1, h.2.2⟩
    · rw [if_neg z] at hq; exact absurd hq (List.not_mem_nil)
  · by_cases z : p = 2 ∨ (p = 1 ∧ mk = true)
    · rw [if_pos z] at hq
      rw [List.mem_singleton.mp hq]
      exact ⟨h.1, h.2.1⟩
    · rw [if_neg z] at hq; exact absurd hq (List.not_mem_nil)
set_option maxHeartbeats 400000 in
theorem accC_in {P : Nat → Prop} (ef : Nat → Nat → PL) (r : Nat) : ∀ c, (∀ k, k < c → inPL P (ef r k)) → inPL P (accC ef r c)
  | 0, _ => fun p hp => absurd hp (List.not_mem_nil)
  | c + 1, h => by
    unfold accC
    exact inPL_app (h c (by omega)) (accC_in ef r c (fun k hk => h k (by omega)))
set_option maxHeartbeats 400000 in
theorem accR_in {P : Nat → Prop} (ef : Nat → Nat → PL) (nk : Nat → Nat) : ∀ R, (∀ r c, r < R → c < nk r → inPL P (ef r c)) → inPL P (accR ef nk R)
  | 0, _ => fun p hp => absurd hp (List.not_mem_nil)
  | r + 1, h => by
    unfold accR
    exact inPL_app (accC_in ef r (nk r) (fun k hk => h r k (by omega) hk)) (accR_in ef nk r (fun q c hq hc => h q c (by omega) hc))
set_option maxHeartbeats 400000 in
theorem exN_C {R K L C D : Nat} {nk : Nat → Nat} {r c : Nat} (hr : r < R) (hc : c < nk r) : exN R K L C D nk (20 * r + 3 * c + 4) ∧ exN R K L C D nk (20 * r + 3 * c + 4 + 1) ∧ exN R K L C D nk (20 * r + 3 * c + 4 + 2) := ⟨.inr (.inl ⟨r, 3 * c + 2, hr, by omega, by omega⟩), .inr (.inl ⟨r, 3 * c + 3, hr, by omega, by omega⟩), .inr (.inl ⟨r, 3 * c + 4, hr, by omega, by omega⟩)⟩
set_option maxHeartbeats 400000 in
theorem efX_in {R K L C D : Nat} {nk : Nat → Nat} (makes stuck dusty pos : Nat → Int32) (r c : Nat) (hr : r < R) (hc : c < nk r) : inPL (exN R K L C D nk) (efX makes stuck dusty pos r c) := by
  unfold efX
  by_cases z : dusty (6 * r + c) = 0
  · rw [if_pos z]
    exact conE_in _ _ _ (exN_C hr hc)
  · rw [if_neg z]
    exact fun p hp => absurd hp (List.not_mem_nil)
set_option maxHeartbeats 400000 in
theorem g_16 (c_netlist_nets : Int32) (c_netlist_parts : Nat → Int32) (c_netlist_contacts : Nat → Int32) (c_netlist_makes : Nat → Int32) (c_netlist_period : Nat → Int32) (c_netlist_onTime : Nat → Int32) (c_netlist_netOf : Nat → Int32) (c_wear_stuckAt : Nat → Int32) (c_wear_dusty : Nat → Int32) (c_p1_keys : Int32) (c_p1_time : Int32) (c_p1_positions : Nat → Int32) {nn R K L C D : Nat} {nk : Nat → Nat} (hN : NXI nn c_netlist_netOf (exN R K L C D nk)) (hnn : nn ≤ 954) (pR : (c_netlist_parts 0).toInt = R) (pK : (c_netlist_parts 1).toInt = K) (pC : (c_netlist_parts 3).toInt = C) (pD : (c_netlist_parts 4).toInt = D) (bR : R ≤ 40) (bK : K ≤ 24) (bC : C ≤ 4) (bD : D ≤ 24) (hk6 : ∀ r, nk r ≤ 6) (hnk : ∀ r, r < R → (c_netlist_contacts r).toInt = nk r) : ∀ (n : Nat) (x2 : Int32) (c_ways_nets : Int32) (c_ways_links : Int32) (c_ways_firstLink : Nat → Int32) (c_ways_nextLink : Nat → Int32) (c_ways_leadsTo : Nat → Int32) (c_ways_lets : Nat → Int32) (c_ways_powers : Nat → Int32) (c_ways_reached : Nat → Int32) (r : Nat), x2.toInt = r → r ≤ R → GI nn (nuX c_netlist_netOf) (accR (efX c_netlist_makes c_wear_stuckAt c_wear_dusty c_p1_positions) nk r) [] c_ways_nets c_ways_links c_ways_firstLink c_ways_nextLink c_ways_leadsTo c_ways_lets → (∀ u, u < nn → c_ways_powers u = 0) → ∀ JL, JL = accF (fun i => isOnB (c_netlist_period i) (c_netlist_onTime i) c_p1_time) 898 C ++ (accF (keyB c_p1_keys) 802 K ++ accR (efX c_netlist_makes c_wear_stuckAt c_wear_dusty c_p1_positions) nk R) → Pc (f_X2_settle_16 c_netlist_nets c_netlist_parts c_netlist_contacts c_netlist_makes c_netlist_period c_netlist_onTime c_netlist_netOf c_wear_stuckAt c_wear_dusty c_p1_keys c_p1_time c_p1_positions n x2 c_ways_nets c_ways_links c_ways_firstLink c_ways_nextLink c_ways_leadsTo c_ways_lets c_ways_powers c_ways_reached) (fun r => SETP nn (exN R K L C D nk) (nuX c_netlist_netOf) JL (accF (fun _ => true) 906 D) r.1 r.2.2.2.2.2.2.1)
  | 0, x2, c_ways_nets, c_ways_links, c_ways_firstLink, c_ways_nextLink, c_ways_leadsTo, c_ways_lets, c_ways_powers, c_ways_reached, r, h2, h3, hG, hP, JL, hJL => pc_none
  | n + 1, x2, c_ways_nets, c_ways_links, c_ways_firstLink, c_ways_nextLink, c_ways_leadsTo, c_ways_lets, c_ways_powers, c_ways_reached, r, h2, h3, hG, hP, JL, hJL => by
    unfold f_X2_settle_16
    have ll := accR_len (efX c_netlist_makes c_wear_stuckAt c_wear_dusty c_p1_positions) nk (efX_len c_netlist_makes c_wear_stuckAt c_wear_dusty c_p1_positions) hk6 r
    refine pc_bad (fun _ => ?_)
    rw [show (0 : Int32).toNatClampNeg = 0 from by decide]
    refine pc_if (fun a => ?_) (fun a => ?_)
    · rw [tI_le] at a
      have rR : r = R := by omega
      subst rR
      refine g_70 c_netlist_nets c_netlist_parts c_netlist_contacts c_netlist_makes c_netlist_period c_netlist_onTime c_netlist_netOf c_wear_stuckAt c_wear_dusty c_p1_keys c_p1_time c_p1_positions hN hnn pR pK pC pD bR bK bC bD hk6 hnk (J0 := accR (efX c_netlist_makes c_wear_stuckAt c_wear_dusty c_p1_positions) nk r) ?_ (by omega) FU _ _ _ _ _ _ _ _ _ 0 _ (by decide) (Nat.zero_le _) rfl hG hP JL hJL
      exact accR_in _ _ _ (fun q c hq hc => efX_in _ _ _ _ q c hq hc)
    · rw [tI_le] at a
      refine g_31 _ c_netlist_nets c_netlist_parts c_netlist_contacts c_netlist_makes c_netlist_period c_netlist_onTime c_netlist_netOf c_wear_stuckAt c_wear_dusty c_p1_keys c_p1_time c_p1_positions hN hnn pR pK pC pD bR bK bC bD hk6 hnk (accR (efX c_netlist_makes c_wear_stuckAt c_wear_dusty c_p1_positions) nk r) (by omega) r (by omega) c_ways_nets c_ways_powers (fun wl w1 w2 w3 w4 w6 hG2 y hy => ?_) FU _ _ _ _ _ _ _ _ _ _ 0 h2 (by decide) (Nat.zero_le _) rfl rfl hG
      exact g_16 c_netlist_nets c_netlist_parts c_netlist_contacts c_netlist_makes c_netlist_period c_netlist_onTime c_netlist_netOf c_wear_stuckAt c_wear_dusty c_p1_keys c_p1_time c_p1_positions hN hnn pR pK pC pD bR bK bC bD hk6 hnk n _ _ _ _ _ _ _ _ _ (r + 1) (by rw [hy]; rfl) (by omega) hG2 hP JL hJL
set_option maxHeartbeats 400000 in
theorem GI_0 {nn : Nat} {ν : Nat → Nat} {nets links : Int32} {fl nl ld lets : Nat → Int32} (h1 : nets.toInt = nn) (h2 : nn ≤ 954) (h3 : links = 0) (h4 : ∀ u, u < nn → fl u = -1) : GI nn ν [] [] nets links fl nl ld lets := by
  refine ⟨0, fun _ => 0, fun _ => 0, fun _ => 0, ⟨h1, h2, by rw [h3]; decide, by decide, fun u hu => ?_, fun i hi => absurd hi (Nat.not_lt_zero _)⟩, Nat.zero_le _, fun p hp => absurd hp (List.not_mem_nil), fun p hp => absurd hp (List.not_mem_nil), fun i hi => absurd hi (Nat.not_lt_zero _)⟩
  rw [h4 u hu]
  show (-1 : Int32).toInt = -1
  decide
set_option maxHeartbeats 400000 in
theorem x_begin_22' : ∀ (n : Nat) (x2 : Int32) (c_nets : Int32) (c_links : Int32) (c_firstLink : Nat → Int32) (c_powers : Nat → Int32), 0 ≤ x2.toInt → x2.toInt ≤ c_nets.toInt → c_nets.toInt ≤ 954 → c_nets.toInt < x2.toInt + n → (∀ e : Nat, (e : Int) < x2.toInt → c_firstLink e = -1 ∧ c_powers e = 0) → Ok (f_X8_begin_22 n x2 c_nets c_links c_firstLink c_powers) (fun r => r.1 = c_nets ∧ r.2.1 = c_links ∧ ∀ e : Nat, (e : Int) < c_nets.toInt → r.2.2.1 e = -1 ∧ r.2.2.2 e = 0)
  | 0, x2, c_nets, c_links, c_firstLink, c_powers, h1, h2, h3, h4, h5 => by exfalso; omega
  | n + 1, x2, c_nets, c_links, c_firstLink, c_powers, h1, h2, h3, h4, h5 => by
    unfold f_X8_begin_22
    refine ok_if (fun a => ok_some ⟨rfl, rfl, fun e he => h5 e (by rw [tI_le] at a; omega)⟩) (fun a => ?_)
    rw [tI_le] at a
    refine ok_bad (by omega) (ok_vlet (ok_bad (by omega) (ok_vlet (ok_vlet ?_))))
    refine x_begin_22' n _ _ _ _ _ (by ((try simp only [tI_lt, tI_le, tI_eq, tI_add, tI_sub, tI_mul, tI_nat, Int32.reduceToInt, Int.reduceToNat, fe_0, fe_1, fe_2, fe_3, fe_4, fe_5]) <;> (try simp (disch := omega) only [tI_bm]) <;> omega)) (by ((try simp only [tI_lt, tI_le, tI_eq, tI_add, tI_sub, tI_mul, tI_nat, Int32.reduceToInt, Int.reduceToNat, fe_0, fe_1, fe_2, fe_3, fe_4, fe_5]) <;> (try simp (disch := omega) only [tI_bm]) <;> omega)) h3 (by ((try simp only [tI_lt, tI_le, tI_eq, tI_add, tI_sub, tI_mul, tI_nat, Int32.reduceToInt, Int.reduceToNat, fe_0, fe_1, fe_2, fe_3, fe_4, fe_5]) <;> (try simp (disch := omega) only [tI_bm]) <;> omega)) (fun e he => ?_)
    have e1 : (x2 + 1).toInt = x2.toInt + 1 := by ((try simp only [tI_lt, tI_le, tI_eq, tI_add, tI_sub, tI_mul, tI_nat, Int32.reduceToInt, Int.reduceToNat, fe_0, fe_1, fe_2, fe_3, fe_4, fe_5]) <;> (try simp (disch := omega) only [tI_bm]) <;> omega)
    rw [upd_at, upd_at, tI_nat]
    by_cases z : e = x2.toInt.toNat
    · rw [if_pos z, if_pos z]; exact ⟨rfl, rfl⟩
    · rw [if_neg z, if_neg z]; exact h5 e (by omega)
set_option maxHeartbeats 400000 in
theorem g_begin (x1 : Int32) (c_nets : Int32) (c_links : Int32) (c_firstLink : Nat → Int32) (c_powers : Nat → Int32) (h1 : 0 ≤ x1.toInt) (h2 : x1.toInt ≤ 954) : Ok (f_X8_begin x1 c_nets c_links c_firstLink c_powers) (fun r => r.1 = x1 ∧ r.2.1 = 0 ∧ ∀ e : Nat, (e : Int) < x1.toInt → r.2.2.1 e = -1 ∧ r.2.2.2 e = 0) := by
  unfold f_X8_begin
  have e : xmax (0 : Int32) (xmin x1 (954 : Int32)) = x1 := by
    have e1 : xmin x1 (954 : Int32) = x1 := by
      unfold xmin
      rw [if_neg (by rw [tI_lt, l_954]; omega)]
    rw [e1]
    unfold xmax
    by_cases a : (0 : Int32) < x1
    · rw [if_pos a]
    · rw [if_neg a]
      rw [tI_lt, l_0] at a
      exact Int32.toInt_inj.mp (by rw [l_0]; omega)
  rw [e]
  exact ok_vlet (x_begin_22' FU 0 x1 0 c_firstLink c_powers (by decide) (by rw [l_0]; exact h1) h2 (by rw [FU_eq, l_0]; omega) (fun e he => by rw [l_0] at he; omega))
set_option maxHeartbeats 400000 in
theorem g_settle (c_netlist_nets : Int32) (c_netlist_parts : Nat → Int32) (c_netlist_contacts : Nat → Int32) (c_netlist_makes : Nat → Int32) (c_netlist_period : Nat → Int32) (c_netlist_onTime : Nat → Int32) (c_netlist_netOf : Nat → Int32) (c_wear_stuckAt : Nat → Int32) (c_wear_dusty : Nat → Int32) (c_ways_nets : Int32) (c_ways_links : Int32) (c_ways_firstLink : Nat → Int32) (c_ways_nextLink : Nat → Int32) (c_ways_leadsTo : Nat → Int32) (c_ways_lets : Nat → Int32) (c_ways_powers : Nat → Int32) (c_ways_reached : Nat → Int32) (c_p1_keys : Int32) (c_p1_time : Int32) (c_p1_positions : Nat → Int32) {nn R K L C D : Nat} {nk : Nat → Nat} (hN : NXI nn c_netlist_netOf (exN R K L C D nk)) (hnn : nn ≤ 954) (pR : (c_netlist_parts 0).toInt = R) (pK : (c_netlist_parts 1).toInt = K) (pC : (c_netlist_parts 3).toInt = C) (pD : (c_netlist_parts 4).toInt = D) (bR : R ≤ 40) (bK : K ≤ 24) (bC : C ≤ 4) (bD : D ≤ 24) (hk6 : ∀ r, nk r ≤ 6) (hnk : ∀ r, r < R → (c_netlist_contacts r).toInt = nk r) (hn : c_netlist_nets.toInt = nn) {JL : PL} (hJL : JL = accF (fun i => isOnB (c_netlist_period i) (c_netlist_onTime i) c_p1_time) 898 C ++ (accF (keyB c_p1_keys) 802 K ++ accR (efX c_netlist_makes c_wear_stuckAt c_wear_dusty c_p1_positions) nk R)) : Pc (f_X2_settle c_netlist_nets c_netlist_parts c_netlist_contacts c_netlist_makes c_netlist_period c_netlist_onTime c_netlist_netOf c_wear_stuckAt c_wear_dusty c_ways_nets c_ways_links c_ways_firstLink c_ways_nextLink c_ways_leadsTo c_ways_lets c_ways_powers c_ways_reached c_p1_keys c_p1_time c_p1_positions) (fun r => SETP nn (exN R K L C D nk) (nuX c_netlist_netOf) JL (accF (fun _ => true) 906 D) r.1 r.2.2.2.2.2.2.1) := by
  unfold f_X2_settle
  refine pc_bind (pc_ok (g_begin _ _ _ _ _ (by omega) (by omega))) (fun r1 g => ?_)
  obtain ⟨g1, g2, g3⟩ := g
  exact g_16 c_netlist_nets c_netlist_parts c_netlist_contacts c_netlist_makes c_netlist_period c_netlist_onTime c_netlist_netOf c_wear_stuckAt c_wear_dusty c_p1_keys c_p1_time c_p1_positions hN hnn pR pK pC pD bR bK bC bD hk6 hnk FU _ _ _ _ _ _ _ _ _ 0 (by decide) (Nat.zero_le _) (GI_0 (by rw [g1]; exact hn) hnn g2 (fun u hu => (g3 u (by omega)).1)) (fun u hu => (g3 u (by omega)).2) JL hJL
