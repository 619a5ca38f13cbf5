/-! what is LIVE and GROUNDED, told alike on both sides -/
def LVd (st : Nat) (ν : Nat → Nat) (JL DL : PL) (e : Nat) : Prop := ∀ T, CLS st (EQM ν) JL DL T → T e
set_option maxHeartbeats 400000 in
theorem LST_LV {st : Nat} {EQ : Nat → Nat → Prop} {ν : Nat → Nat} {JL DL : PL} {ex T : Nat → Prop} (h : LST st EQ JL DL ex T) (hc : ∀ T, CLS st EQ JL DL T ↔ CLS st (EQM ν) JL DL T) (e : Nat) (he : ex e) : T e ↔ LVd st ν JL DL e := ⟨fun t T2 h2 => h.2 T2 ((hc T2).mpr h2) e he t, fun l => l T ((hc T).mp h.1)⟩
set_option maxHeartbeats 400000 in
theorem CLS_eq {st : Nat} {ex : Nat → Prop} {νX νM : Nat → Nat} {JL DL : PL} (h1 : ∀ e f, ex e → ex f → (νX e = νX f ↔ νM e = νM f)) (h2 : ∀ e, ex e → e < 954) (h3 : ∀ e f, e < 954 → f < 954 → νM e = νM f → e = f ∨ (ex e ∧ ex f)) (T : Nat → Prop) : CLS st (fun e f => ex e ∧ ex f ∧ νX e = νX f) JL DL T ↔ CLS st (EQM νM) JL DL T := by
  constructor
  · rintro ⟨a, b, c⟩
    refine ⟨a, fun e f he t => ?_, c⟩
    obtain ⟨p, q, r⟩ := he
    rcases h3 e f p q r with w | ⟨w1, w2⟩
    · rw [← w]; exact t
    · exact b e f ⟨w1, w2, (h1 e f w1 w2).mpr r⟩ t
  · rintro ⟨a, b, c⟩
    refine ⟨a, fun e f he t => ?_, c⟩
    obtain ⟨p, q, r⟩ := he
    exact b e f ⟨h2 e p, h2 f q, (h1 e f p q).mp r⟩ t
/-! the class's nets and the reference's are the same nets -/
set_option maxHeartbeats 400000 in
theorem NET_cls {S : List StT} {σ : Nat} {toldNets nets : Int32} {told netOf isTold nM : Nat → Int32} (hok : okS S = true) (hA : allPin S (pnsOf S)) (hE : ∀ e, exS S e → e < 954) (hX : NETX S toldNets nets told netOf) (hM : NETM σ S nM isTold) (st : Nat) (JL DL : PL) (T : Nat → Prop) : CLS st (fun e f => exS S e ∧ exS S f ∧ nuX netOf e = nuX netOf f) JL DL T ↔ CLS st (EQM (nuM σ nM)) JL DL T := by
  obtain ⟨TT, N, -, -, -, -, -, ⟨g, g1, g2⟩, -⟩ := hX
  obtain ⟨m1, -⟩ := hM
  refine CLS_eq (fun e f he hf => ?_) hE (fun e f he hf w => ?_) T
  · rw [g2 e f he hf]
    exact PRT_un g1 m1 e f (hE e he) (hE f hf)
  · rcases PRT_told m1 e f he hf w with q | ⟨⟨a, a1, a2⟩, ⟨b, b1, b2⟩⟩
    · exact .inl q
    · exact .inr ⟨by rw [← a2]; exact enS_ex hok (hA a a1), by rw [← b2]; exact enS_ex hok (hA b b1)⟩
/-! energised: one end LIVE alone, the other GROUNDED alone -/
def ENG (LV GD : Nat → Prop) (a b : Nat) : Prop := ((LV a ∧ ¬ GD a) ∧ (GD b ∧ ¬ LV b)) ∨ ((GD a ∧ ¬ LV a) ∧ (LV b ∧ ¬ GD b))
set_option maxHeartbeats 400000 in
theorem p4 (v : Int32) (h : v = 0 ∨ v = 1 ∨ v = 2 ∨ v = 3) : (v = 1 ↔ (¬ v &&& 1 = 0 ∧ ¬ ¬ v &&& 2 = 0)) ∧ (v = 2 ↔ (¬ v &&& 2 = 0 ∧ ¬ ¬ v &&& 1 = 0)) ∧ (v = 3 ↔ (¬ v &&& 1 = 0 ∧ ¬ v &&& 2 = 0)) ∧ (v = 0 ↔ (¬ ¬ v &&& 1 = 0 ∧ ¬ ¬ v &&& 2 = 0)) := by
  rcases h with e | e | e | e <;> subst e <;> decide
set_option maxHeartbeats 400000 in
theorem x_at (x1 : Int32) (c_nets : Int32) (c_powers : Nat → Int32) (nn u : Nat) (h1 : x1.toInt = u) (h2 : u < nn) (h3 : c_nets.toInt = nn) : Pc (f_X8_at x1 c_nets c_powers) (fun r => r = c_powers u) := by
  unfold f_X8_at
  refine pc_if (fun a => by exfalso; rw [tI_lt, l_0] at a; omega) (fun _ => pc_if (fun _ => pc_bad (fun _ => pc_some ?_)) (fun a => by exfalso; rw [tI_lt] at a; omega))
  rw [show x1.toNatClampNeg = u by rw [tI_nat]; omega]
/-! the class's answer whether a part is fed -/
set_option maxHeartbeats 400000 in
theorem x_isFed (x1 : Int32) (x2 : Int32) (c_netlist_netOf : Nat → Int32) (c_ways_nets : Int32) (c_ways_powers : Nat → Int32) {nn : Nat} {ex : Nat → Prop} {JL DL : PL} {LV GD : Nat → Prop} (s i a : Nat) (hs : s < 5) (h1 : x1.toInt = s) (h2 : x2.toInt = i) (hi : i < 40) (ha : (a + 952) % 954 = cEnd s i 0 ∧ (a + 953) % 954 = cEnd s i 1) (ea : ex a) (eb : ex (a + 1)) (hN : NXI nn c_netlist_netOf ex) (hS : SETP nn ex (nuX c_netlist_netOf) JL DL c_ways_nets c_ways_powers) (hL : ∀ e, ex e → (bitP c_ways_powers 1 (nuX c_netlist_netOf) e ↔ LV e)) (hG : ∀ e, ex e → (bitP c_ways_powers 2 (nuX c_netlist_netOf) e ↔ GD e)) : Pc (f_X2_isFed x1 x2 c_netlist_netOf c_ways_nets c_ways_powers) (fun r => (r = 1 ∧ ENG LV GD a (a + 1)) ∨ (r = 0 ∧ ¬ ENG LV GD a (a + 1))) := by
  obtain ⟨s1, s2, -, -⟩ := hS
  unfold f_X2_isFed
  have cf := cFE_v s (by omega)
  have e1 : x1.toNatClampNeg = s := by rw [tI_nat]; omega
  obtain ⟨la, na, na2⟩ := hN a ea
  obtain ⟨lb, nb, nb2⟩ := hN (a + 1) eb
  have fed : ∀ y2 : Int32, y2 = (if s = 0 then 20 else 2) → Pc (f_X2_isFed_16 c_netlist_netOf c_ways_nets c_ways_powers (cFE x1.toNatClampNeg) x2 y2) (fun r => (r = 1 ∧ ENG LV GD a (a + 1)) ∨ (r = 0 ∧ ¬ ENG LV GD a (a + 1))) := by
    intro y2 hy
    rw [e1]
    unfold f_X2_isFed_16
    have et : (cFE s + x2 * y2).toInt = ((cEnd s i 0 : Nat) : Int) := by
      unfold cEnd
      by_cases z : s = 0
      · subst z
        have cf' : (cFE 0).toInt = 0 := by decide
        rw [hy, if_pos rfl, if_pos rfl, show ce 0 = 0 from rfl]
        generalize cFE 0 = w at cf' ⊢
        clear cf
        ((try simp only [tI_lt, tI_le, tI_eq, tI_add, tI_sub, tI_mul, tI_nat, Int32.reduceToInt, Int.reduceToNat, fe_0, fe_1, fe_2, fe_3, fe_4, fe_5]) <;> (try simp (disch := omega) only [tI_bm]) <;> omega)
      · rw [hy, if_neg z, if_neg z]
        have vle := ce_le s
        generalize ce s = v at cf vle ⊢
        generalize cFE s = w at cf ⊢
        ((try simp only [tI_lt, tI_le, tI_eq, tI_add, tI_sub, tI_mul, tI_nat, Int32.reduceToInt, Int.reduceToNat, fe_0, fe_1, fe_2, fe_3, fe_4, fe_5]) <;> (try simp (disch := omega) only [tI_bm]) <;> omega)
    have c0 := ha.1
    have c1 : cEnd s i 1 = cEnd s i 0 + 1 := rfl
    have ta : (cFE s + x2 * y2).toNatClampNeg = (a + 952) % 954 := by rw [tI_nat]; omega
    have tb : (cFE s + x2 * y2 + 1).toNatClampNeg = (a + 1 + 952) % 954 := by
      generalize cFE s + x2 * y2 = w at et
      have : (w + 1).toInt = ((cEnd s i 0 : Nat) : Int) + 1 := by
        have := ha.2
        ((try simp only [tI_lt, tI_le, tI_eq, tI_add, tI_sub, tI_mul, tI_nat, Int32.reduceToInt, Int.reduceToNat, fe_0, fe_1, fe_2, fe_3, fe_4, fe_5]) <;> (try simp (disch := omega) only [tI_bm]) <;> omega)
      have := ha.2
      rw [tI_nat]; omega
    refine pc_vlet (pc_bad (fun _ => ?_))
    rw [ta]
    have ua : (c_netlist_netOf ((a + 952) % 954)).toInt = ((nuX c_netlist_netOf a : Nat) : Int) := by unfold nuX; omega
    have ub : (c_netlist_netOf ((a + 1 + 952) % 954)).toInt = ((nuX c_netlist_netOf (a + 1) : Nat) : Int) := by unfold nuX; omega
    refine pc_bind (x_at (x1 := c_netlist_netOf ((a + 952) % 954)) (c_nets := c_ways_nets) (c_powers := c_ways_powers) nn _ ua (by omega) s1) (fun r3 q3 => pc_bad (fun _ => ?_))
    rw [tb]
    refine pc_bind (x_at (x1 := c_netlist_netOf ((a + 1 + 952) % 954)) (c_nets := c_ways_nets) (c_powers := c_ways_powers) nn _ ub (by omega) s1) (fun r5 q5 => ?_)
    have va := s2 (nuX c_netlist_netOf a) (by omega)
    have vb := s2 (nuX c_netlist_netOf (a + 1)) (by omega)
    have la := hL a ea
    have lb := hL (a + 1) eb
    have ga := hG a ea
    have gb := hG (a + 1) eb
    unfold bitP at la lb ga gb
    rw [← q3] at va la ga
    rw [← q5] at vb lb gb
    obtain ⟨a1, a2, -, -⟩ := p4 r3 va
    obtain ⟨b1, b2, -, -⟩ := p4 r5 vb
    rw [la, ga] at a1 a2
    rw [lb, gb] at b1 b2
    unfold f_X2_isFed_69 f_X2_isFed_81 ENG
    refine pc_if (fun z1 => pc_if (fun z2 => pc_some (.inl ⟨rfl, .inl ⟨a1.mp z1, b2.mp z2⟩⟩)) (fun z2 => pc_if (fun z3 => by rw [z1] at z3; exact absurd z3 (by decide)) (fun z3 => pc_some (.inr ⟨rfl, fun q => ?_⟩)))) (fun z1 => pc_if (fun z2 => pc_if (fun z3 => pc_some (.inl ⟨rfl, .inr ⟨a2.mp z2, b1.mp z3⟩⟩)) (fun z3 => pc_some (.inr ⟨rfl, fun q => ?_⟩))) (fun z2 => pc_some (.inr ⟨rfl, fun q => ?_⟩)))
    · rcases q with ⟨q1, q2⟩ | ⟨q1, q2⟩
      · exact z2 (b2.mpr q2)
      · exact z3 (a2.mpr q1)
    · rcases q with ⟨q1, q2⟩ | ⟨q1, q2⟩
      · exact z1 (a1.mpr q1)
      · exact z3 (b1.mpr q2)
    · rcases q with ⟨q1, q2⟩ | ⟨q1, q2⟩
      · exact z1 (a1.mpr q1)
      · exact z2 (a2.mpr q1)
  refine pc_bad (fun _ => pc_if (fun z => fed 20 ?_) (fun z => fed 2 ?_))
  · rw [if_pos (by rw [z, l_0] at h1; omega)]
  · rw [if_neg (fun q => z (Int32.toInt_inj.mp (by rw [h1, q]; rfl)))]
/-! the reference's answer -/
set_option maxHeartbeats 400000 in
theorem m_only {σ : Nat} (live ground : Nat → Int32) (c_side : Int32) (c_netOf c_joined : Nat → Int32) (hs : c_side.toInt = (σ : Int)) (hσ : σ ≤ 1) (hO : ∀ e : Nat, e < 954 → 0 ≤ (c_netOf (954 * σ + e)).toInt ∧ (c_netOf (954 * σ + e)).toInt < 954) (hJ : JI c_joined) (x1 : Int32) (e : Nat) (hx : x1.toInt = e) (he : e < 954) : Pc (f_X11_isOnlyLive x1 c_side c_netOf c_joined live ground) (fun r => (r = 1 ∧ ¬ live (rt (jn c_joined) (nuM σ c_netOf e)) = 0 ∧ ¬ ¬ ground (rt (jn c_joined) (nuM σ c_netOf e)) = 0) ∨ (r = 0 ∧ ¬ (¬ live (rt (jn c_joined) (nuM σ c_netOf e)) = 0 ∧ ¬ ¬ ground (rt (jn c_joined) (nuM σ c_netOf e)) = 0))) := by
  unfold f_X11_isOnlyLive
  refine pc_bind (m_group _ _ _ _ hs hσ hO hJ e hx he) (fun r1 q1 => pc_bad (fun b1 => ?_))
  rw [show r1.toNatClampNeg = rt (jn c_joined) (nuM σ c_netOf e) by rw [tI_nat]; omega]
  refine pc_if (fun z => pc_some (.inr ⟨rfl, fun q => q.1 z⟩)) (fun z => pc_bind (m_group _ _ _ _ hs hσ hO hJ e hx he) (fun r2 q2 => pc_bad (fun b2 => ?_)))
  rw [show r2.toNatClampNeg = rt (jn c_joined) (nuM σ c_netOf e) by rw [tI_nat]; omega]
  exact pc_if (fun y => pc_some (.inl ⟨rfl, z, fun q => q y⟩)) (fun y => pc_some (.inr ⟨rfl, fun q => q.2 y⟩))
set_option maxHeartbeats 400000 in
theorem m_onlyG {σ : Nat} (live ground : Nat → Int32) (c_side : Int32) (c_netOf c_joined : Nat → Int32) (hs : c_side.toInt = (σ : Int)) (hσ : σ ≤ 1) (hO : ∀ e : Nat, e < 954 → 0 ≤ (c_netOf (954 * σ + e)).toInt ∧ (c_netOf (954 * σ + e)).toInt < 954) (hJ : JI c_joined) (x1 : Int32) (e : Nat) (hx : x1.toInt = e) (he : e < 954) : Pc (f_X11_isOnlyGround x1 c_side c_netOf c_joined live ground) (fun r => (r = 1 ∧ ¬ ground (rt (jn c_joined) (nuM σ c_netOf e)) = 0 ∧ ¬ ¬ live (rt (jn c_joined) (nuM σ c_netOf e)) = 0) ∨ (r = 0 ∧ ¬ (¬ ground (rt (jn c_joined) (nuM σ c_netOf e)) = 0 ∧ ¬ ¬ live (rt (jn c_joined) (nuM σ c_netOf e)) = 0))) := by
  unfold f_X11_isOnlyGround
  refine pc_bind (m_group _ _ _ _ hs hσ hO hJ e hx he) (fun r1 q1 => pc_bad (fun b1 => ?_))
  rw [show r1.toNatClampNeg = rt (jn c_joined) (nuM σ c_netOf e) by rw [tI_nat]; omega]
  refine pc_if (fun z => pc_some (.inr ⟨rfl, fun q => q.1 z⟩)) (fun z => pc_bind (m_group _ _ _ _ hs hσ hO hJ e hx he) (fun r2 q2 => pc_bad (fun b2 => ?_)))
  rw [show r2.toNatClampNeg = rt (jn c_joined) (nuM σ c_netOf e) by rw [tI_nat]; omega]
  exact pc_if (fun y => pc_some (.inl ⟨rfl, z, fun q => q y⟩)) (fun y => pc_some (.inr ⟨rfl, fun q => q.2 y⟩))
set_option maxHeartbeats 400000 in
theorem m_isOn {σ : Nat} (x1 : Int32) (x2 : Int32) (c_side : Int32) (c_netOf : Nat → Int32) (c_joined : Nat → Int32) (c_live : Nat → Int32) (c_ground : Nat → Int32) (hs : c_side.toInt = (σ : Int)) (hσ : σ ≤ 1) (hO : ∀ e : Nat, e < 954 → 0 ≤ (c_netOf (954 * σ + e)).toInt ∧ (c_netOf (954 * σ + e)).toInt < 954) {LV GD : Nat → Prop} (hJ : JI c_joined) (a b : Nat) (ha : x1.toInt = a) (hb : x2.toInt = b) (la : a < 954) (lb : b < 954) (hL : ∀ e, e < 954 → (¬ c_live (rt (jn c_joined) (nuM σ c_netOf e)) = 0 ↔ LV e)) (hG : ∀ e, e < 954 → (¬ c_ground (rt (jn c_joined) (nuM σ c_netOf e)) = 0 ↔ GD e)) : Pc (f_X11_isOn x1 x2 c_side c_netOf c_joined c_live c_ground) (fun r => (r = 1 ∧ ENG LV GD a b) ∨ (r = 0 ∧ ¬ ENG LV GD a b)) := by
  have L := fun (x : Int32) (e : Nat) (hx : x.toInt = e) (he : e < 954) => m_only c_live c_ground c_side c_netOf c_joined hs hσ hO hJ x e hx he
  have G := fun (x : Int32) (e : Nat) (hx : x.toInt = e) (he : e < 954) => m_onlyG c_live c_ground c_side c_netOf c_joined hs hσ hO hJ x e hx he
  have p1 := hL a la
  have p2 := hL b lb
  have p3 := hG a la
  have p4 := hG b lb
  unfold f_X11_isOn f_X11_isOn_16 f_X11_isOn_32 ENG
  have second : ¬ ((LV a ∧ ¬ GD a) ∧ (GD b ∧ ¬ LV b)) → Pc ((f_X11_isOnlyGround x1 c_side c_netOf c_joined c_live c_ground).bind fun r1 => if r1 = 0 then some (0 : Int32) else (f_X11_isOnlyLive x2 c_side c_netOf c_joined c_live c_ground).bind fun r2 => if r2 = 0 then some (0 : Int32) else some (1 : Int32)) (fun r => (r = 1 ∧ (((LV a ∧ ¬ GD a) ∧ (GD b ∧ ¬ LV b)) ∨ ((GD a ∧ ¬ LV a) ∧ (LV b ∧ ¬ GD b)))) ∨ (r = 0 ∧ ¬ (((LV a ∧ ¬ GD a) ∧ (GD b ∧ ¬ LV b)) ∨ ((GD a ∧ ¬ LV a) ∧ (LV b ∧ ¬ GD b))))) := by
    intro n1
    refine pc_bind (G x1 a ha la) (fun r1 q1 => ?_)
    rw [p1, p3] at q1
    rcases q1 with ⟨e1, q1⟩ | ⟨e1, q1⟩
    · rw [if_neg (by rw [e1]; decide)]
      refine pc_bind (L x2 b hb lb) (fun r2 q2 => ?_)
      rw [p2, p4] at q2
      rcases q2 with ⟨e2, q2⟩ | ⟨e2, q2⟩
      · rw [if_neg (by rw [e2]; decide)]
        exact pc_some (.inl ⟨rfl, .inr ⟨q1, q2⟩⟩)
      · rw [if_pos e2]
        exact pc_some (.inr ⟨rfl, fun w => w.elim n1 (fun w => q2 w.2)⟩)
    · rw [if_pos e1]
      exact pc_some (.inr ⟨rfl, fun w => w.elim n1 (fun w => q1 w.1)⟩)
  refine pc_bind (L x1 a ha la) (fun r1 q1 => ?_)
  rw [p1, p3] at q1
  rcases q1 with ⟨e1, q1⟩ | ⟨e1, q1⟩
  · rw [if_neg (by rw [e1]; decide)]
    refine pc_bind (G x2 b hb lb) (fun r2 q2 => ?_)
    rw [p2, p4] at q2
    rcases q2 with ⟨e2, q2⟩ | ⟨e2, q2⟩
    · rw [if_neg (by rw [e2]; decide)]
      exact pc_some (.inl ⟨rfl, .inl ⟨q1, q2⟩⟩)
    · rw [if_pos e2]
      exact second (fun w => q2 w.2)
  · rw [if_pos e1]
    exact second (fun w => q1 w.1)
