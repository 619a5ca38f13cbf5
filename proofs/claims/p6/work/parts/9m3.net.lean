/-! net: an end's power -/
def PWR (L G : Prop) (v : Int32) : Prop := (v = 1 ∧ L ∧ ¬ G) ∨ (v = 2 ∧ G ∧ ¬ L) ∨ (v = 3 ∧ L ∧ G) ∨ (v = 0 ∧ ¬ L ∧ ¬ G)
set_option maxHeartbeats 400000 in
theorem PWR_eq {L G : Prop} {v w : Int32} (h : PWR L G v) (k : PWR L G w) : v = w := by
  rcases h with ⟨a, b, c⟩ | ⟨a, b, c⟩ | ⟨a, b, c⟩ | ⟨a, b, c⟩ <;> rcases k with ⟨d, e, f⟩ | ⟨d, e, f⟩ | ⟨d, e, f⟩ | ⟨d, e, f⟩ <;> first | (exact a.trans d.symm) | (exact absurd ‹L› ‹¬ L›) | (exact absurd ‹G› ‹¬ G›)
def VE (x1 x2 x3 : Int32) (parts contacts : Nat → Int32) : Prop := (hasP x1 x2 parts ∨ (x1 = 5 ∧ x2 = 0)) ∧ 0 ≤ x3.toInt ∧ x3.toInt < (if x1 = 0 then 2 + 3 * (contacts x2.toInt.toNat).toInt else 2)
set_option maxHeartbeats 400000 in
theorem x_endAt2 (x1 : Int32) (x2 : Int32) (x3 : Int32) (c_parts : Nat → Int32) (c_contacts : Nat → Int32) (hN : NS c_parts c_contacts) : Pc (f_X3_endAt x1 x2 x3 c_parts c_contacts) (fun r => (r = -1 ∧ ¬ VE x1 x2 x3 c_parts c_contacts) ∨ (VE x1 x2 x3 c_parts c_contacts ∧ 0 ≤ r.toInt ∧ r.toInt = cEnd x1.toInt.toNat x2.toInt.toNat x3.toInt.toNat)) := by
  have hN' := hN
  obtain ⟨n0, n1, n2, n3, n4, n5⟩ := hN'
  by_cases hh : hasP x1 x2 c_parts ∨ (x1 = 5 ∧ x2 = 0)
  · by_cases hk : 0 ≤ x3.toInt ∧ x3.toInt < (if x1 = 0 then 2 + 3 * (c_contacts x2.toInt.toNat).toInt else 2)
    · have b1 : 0 ≤ x1.toInt ∧ x1.toInt ≤ 5 ∧ 0 ≤ x2.toInt ∧ x2.toInt < 40 := by
        rcases hh with ⟨q1, q2, q3, q4⟩ | ⟨q1, q2⟩
        · have : x1.toInt = 0 ∨ x1.toInt = 1 ∨ x1.toInt = 2 ∨ x1.toInt = 3 ∨ x1.toInt = 4 := by omega
          rcases this with e | e | e | e | e <;> rw [e] at q4 <;> simp only [Int.reduceToNat] at q4 <;> omega
        · rw [q1, q2]; decide
      have b2 : x3.toInt < 20 := by
        have h2 := hk.2
        have := n5 x2.toInt.toNat (by omega)
        split at h2 <;> omega
      refine pc_mono (pc_and (pc_ok (e_endAt _ _ _ _ _ hN hh)) (x_endAt _ _ _ _ _ x1.toInt.toNat x2.toInt.toNat x3.toInt.toNat (by omega) (by omega) (by omega) (by omega) (by omega) (by omega))) (fun r hr => ?_)
      obtain ⟨p1, p2⟩ := hr
      rcases p1 with ⟨-, -, p3, -⟩ | ⟨p3, -⟩
      · rcases p2 with p4 | p4
        · exfalso
          rw [p4, l_m1] at p3
          omega
        · exact .inr ⟨⟨hh, hk⟩, p3, p4⟩
      · exact absurd hk p3
    · refine pc_mono (pc_ok (e_endAt _ _ _ _ _ hN hh)) (fun r hr => ?_)
      rcases hr with ⟨p1, p2, -⟩ | ⟨-, p2⟩
      · exact absurd ⟨p1, p2⟩ hk
      · exact .inl ⟨p2, fun q => hk q.2⟩
  · have z : Pc (f_X3_endAt_23 c_parts c_contacts x1 x2 x3 (0 : Int32)) (fun r => (r = -1 ∧ ¬ VE x1 x2 x3 c_parts c_contacts) ∨ (VE x1 x2 x3 c_parts c_contacts ∧ 0 ≤ r.toInt ∧ r.toInt = cEnd x1.toInt.toNat x2.toInt.toNat x3.toInt.toNat)) := by
      unfold f_X3_endAt_23
      exact pc_if (fun _ => pc_some (.inl ⟨rfl, fun q => hh q.1⟩)) (fun w => absurd rfl w)
    unfold f_X3_endAt f_X3_endAt_18 f_X3_endAt_22
    refine pc_bind (pc_ok (so_X3_has _ _ _)) (fun r1 hr => ?_)
    rcases hr with ⟨e, -⟩ | ⟨-, q⟩
    · rw [e, if_pos rfl]
      exact pc_if (fun a => pc_if (fun b => absurd (.inr ⟨a, b⟩) hh) (fun _ => z)) (fun _ => z)
    · exact absurd (.inl q) hh
/-! the end in the reference's numbers -/
def rEnd (s i k : Nat) : Nat := if s = 0 then 2 + 20 * i + k else if s = 5 then k else feM s + 2 * i + k
set_option maxHeartbeats 400000 in
theorem rEnd_ok {S : List StT} {toldNets : Int32} {parts pick drop cont makes per on_ : Nat → Int32} {names : Nat → Nat → Int64} (hI : IX S toldNets parts names pick drop cont makes per on_) (x1 x2 x3 : Int32) (h : VE x1 x2 x3 parts cont) : exS S (rEnd x1.toInt.toNat x2.toInt.toNat x3.toInt.toNat) ∧ (rEnd x1.toInt.toNat x2.toInt.toNat x3.toInt.toNat + 952) % 954 = cEnd x1.toInt.toNat x2.toInt.toNat x3.toInt.toNat := by
  obtain ⟨k1, k2, m0, m1, m2, m3, m4⟩ := GS_nk hI.1
  have hp := hI.1.2.2.2.1
  obtain ⟨hh, a1, a2⟩ := h
  rcases hh with ⟨q1, q2, q3, q4⟩ | ⟨q1, q2⟩
  · have : x1.toInt.toNat = 0 ∨ x1.toInt.toNat = 1 ∨ x1.toInt.toNat = 2 ∨ x1.toInt.toNat = 3 ∨ x1.toInt.toNat = 4 := by omega
    have c5 := hp x1.toInt.toNat (by omega)
    rw [c5] at q4
    by_cases z : x1 = 0
    · rw [if_pos z] at a2
      have e : x1.toInt.toNat = 0 := by rw [z]; decide
      rw [e] at q4 ⊢
      have := k2 x2.toInt.toNat (by omega)
      refine ⟨.inr (.inl ⟨x2.toInt.toNat, x3.toInt.toNat, by omega, by omega, by unfold rEnd; rw [if_pos rfl]⟩), ?_⟩
      have := k1 x2.toInt.toNat
      unfold rEnd cEnd
      rw [if_pos rfl, if_pos rfl, show ce 0 = 0 from rfl]
      omega
    · rw [if_neg z] at a2
      rcases this with e | e | e | e | e
      · exact absurd (Int32.toInt_inj.mp (by rw [l_0]; omega)) z
      · rw [e] at q4 ⊢
        refine ⟨.inr (.inr (.inl ⟨x2.toInt.toNat, x3.toInt.toNat, by omega, by omega, rfl⟩)), ?_⟩
        show (802 + 2 * x2.toInt.toNat + x3.toInt.toNat + 952) % 954 = 800 + 2 * x2.toInt.toNat + x3.toInt.toNat
        omega
      · rw [e] at q4 ⊢
        refine ⟨.inr (.inr (.inr (.inl ⟨x2.toInt.toNat, x3.toInt.toNat, by omega, by omega, rfl⟩))), ?_⟩
        show (850 + 2 * x2.toInt.toNat + x3.toInt.toNat + 952) % 954 = 848 + 2 * x2.toInt.toNat + x3.toInt.toNat
        omega
      · rw [e] at q4 ⊢
        refine ⟨.inr (.inr (.inr (.inr (.inl ⟨x2.toInt.toNat, x3.toInt.toNat, by omega, by omega, rfl⟩)))), ?_⟩
        show (898 + 2 * x2.toInt.toNat + x3.toInt.toNat + 952) % 954 = 896 + 2 * x2.toInt.toNat + x3.toInt.toNat
        omega
      · rw [e] at q4 ⊢
        refine ⟨.inr (.inr (.inr (.inr (.inr ⟨x2.toInt.toNat, x3.toInt.toNat, by omega, by omega, rfl⟩)))), ?_⟩
        show (906 + 2 * x2.toInt.toNat + x3.toInt.toNat + 952) % 954 = 904 + 2 * x2.toInt.toNat + x3.toInt.toNat
        omega
  · rw [q1, if_neg (by decide)] at a2
    rw [q1, q2, show (5 : Int32).toInt.toNat = 5 from by decide, show (0 : Int32).toInt.toNat = 0 from by decide]
    refine ⟨.inl (by show x3.toInt.toNat < 2; omega), ?_⟩
    show (x3.toInt.toNat + 952) % 954 = 952 + 0 + x3.toInt.toNat
    omega
set_option maxHeartbeats 400000 in
theorem x_powerAt (x1 : Int32) (c_netlist_netOf : Nat → Int32) (c_ways_nets : Int32) (c_ways_powers : Nat → Int32) {nn : Nat} {ex : Nat → Prop} {JL DL : PL} {LV GD : Nat → Prop} (a : Nat) (h1 : x1.toInt = (((a + 952) % 954 : Nat) : Int)) (ea : ex a) (hN : NXI nn c_netlist_netOf ex) (hS : SETP nn ex (nuX c_netlist_netOf) JL DL c_ways_nets c_ways_powers) (hL : ∀ e, ex e → (bitP c_ways_powers 1 (nuX c_netlist_netOf) e ↔ LV e)) (hG : ∀ e, ex e → (bitP c_ways_powers 2 (nuX c_netlist_netOf) e ↔ GD e)) : Pc (f_X2_powerAt x1 c_netlist_netOf c_ways_nets c_ways_powers) (fun r => PWR (LV a) (GD a) r) := by
  obtain ⟨s1, s2, -, -⟩ := hS
  obtain ⟨la, na, na2⟩ := hN a ea
  unfold f_X2_powerAt
  refine pc_if (fun b => ?_) (fun b => pc_if (fun _ => pc_bad (fun _ => ?_)) (fun b => ?_))
  · exfalso
    rw [tI_lt, l_0] at b
    omega
  · have ta : x1.toNatClampNeg = (a + 952) % 954 := by rw [tI_nat]; omega
    rw [ta]
    have ua : (c_netlist_netOf ((a + 952) % 954)).toInt = ((nuX c_netlist_netOf a : Nat) : Int) := by unfold nuX; omega
    refine pc_bind (x_at (x1 := c_netlist_netOf ((a + 952) % 954)) (c_nets := c_ways_nets) (c_powers := c_ways_powers) nn _ ua (by omega) s1) (fun r3 q3 => pc_some ?_)
    rw [q3]
    have hv := s2 (nuX c_netlist_netOf a) (by omega)
    obtain ⟨p1, p2, p3, p0⟩ := p4 _ hv
    have bl := hL a ea
    have bg := hG a ea
    unfold bitP at bl bg
    rcases hv with v | v | v | v
    · have := p0.mp v
      exact .inr (.inr (.inr ⟨v, fun q => absurd (bl.mpr q) this.1, fun q => absurd (bg.mpr q) this.2⟩))
    · have := p1.mp v
      exact .inl ⟨v, bl.mp this.1, fun q => this.2 (bg.mpr q)⟩
    · have := p2.mp v
      exact .inr (.inl ⟨v, bg.mp this.1, fun q => this.2 (bl.mpr q)⟩)
    · have := p3.mp v
      exact .inr (.inr (.inl ⟨v, bl.mp this.1, bg.mp this.2⟩))
  · exfalso
    rw [tI_lt, l_954] at b
    omega
set_option maxHeartbeats 400000 in
theorem m_net_93 (c_side : Int32) (c_many : Nat → Int32) (c_one : Nat → Int32) (c_two : Nat → Int32) (c_kinds : Nat → Int32) (c_kindBits : Nat → Int32) (c_netOf : Nat → Int32) (c_state : Nat → Int32) (c_stuck : Nat → Int32) (c_dusty : Nat → Int32) (x4 : Int32) (c_joined : Nat → Int32) (c_live : Nat → Int32) (c_ground : Nat → Int32) {σ : Nat} {LV GD : Nat → Prop} (hM : MI σ c_side c_many c_one c_kinds c_netOf) (hlook : Pc (f_X11_look c_side c_many c_one c_two c_kinds c_kindBits c_netOf c_state c_stuck c_dusty c_joined c_live c_ground) (fun r => JI r.1 ∧ (∀ e, e < 954 → (¬ r.2.1 (rt (jn r.1) (nuM σ c_netOf e)) = 0 ↔ LV e)) ∧ ∀ e, e < 954 → (¬ r.2.2 (rt (jn r.1) (nuM σ c_netOf e)) = 0 ↔ GD e))) (a : Nat) (hx : x4.toInt = a) (ha : a < 954) : Pc (f_X11_net_93 c_side c_many c_one c_two c_kinds c_kindBits c_netOf c_state c_stuck c_dusty x4 c_joined c_live c_ground) (fun r => PWR (LV a) (GD a) r.1) := by
  unfold f_X11_net_93
  obtain ⟨hs, hσ, m0, m1, m2, m3, m4, hK, hO1, hO⟩ := hM
  refine pc_bind hlook (fun r1 q => pc_bind (m_group _ _ _ _ hs hσ hO q.1 a hx ha) (fun r2 q2 => pc_bad (fun _ => ?_)))
  have e2 : r2.toNatClampNeg = rt (jn r1.1) (nuM σ c_netOf a) := by rw [tI_nat]; omega
  rw [e2]
  have l1 := q.2.1 a ha
  have g1 := q.2.2 a ha
  refine pc_if (fun z => ?_) (fun z => ?_)
  all_goals
    unfold f_X11_net_116
    refine pc_bind (m_group _ _ _ _ hs hσ hO q.1 a hx ha) (fun r3 q3 => pc_bad (fun _ => ?_))
    have e3 : r3.toNatClampNeg = rt (jn r1.1) (nuM σ c_netOf a) := by rw [tI_nat]; omega
    rw [e3]
  · exact pc_if (fun w => pc_some (.inr (.inr (.inr ⟨(show (0 : Int32) + 0 = 0 from by decide), fun q => l1.mpr q z, fun q => g1.mpr q w⟩)))) (fun w => pc_some (.inr (.inl ⟨(show (0 : Int32) + 2 = 2 from by decide), g1.mp w, fun q => l1.mpr q z⟩)))
  · exact pc_if (fun w => pc_some (.inl ⟨(show (1 : Int32) + 0 = 1 from by decide), l1.mp z, fun q => g1.mpr q w⟩)) (fun w => pc_some (.inr (.inr (.inl ⟨(show (1 : Int32) + 2 = 3 from by decide), l1.mp z, g1.mp w⟩))))
set_option maxHeartbeats 400000 in
theorem m_net (x1 : Int32) (x2 : Int32) (x3 : Int32) (c_side : Int32) (c_many : Nat → Int32) (c_one : Nat → Int32) (c_two : Nat → Int32) (c_kinds : Nat → Int32) (c_kindBits : Nat → Int32) (c_netOf : Nat → Int32) (c_state : Nat → Int32) (c_stuck : Nat → Int32) (c_dusty : Nat → Int32) (c_joined : Nat → Int32) (c_live : Nat → Int32) (c_ground : Nat → Int32) {σ : Nat} {LV GD : Nat → Prop} {parts cont : Nat → Int32} (hM : MI σ c_side c_many c_one c_kinds c_netOf) (hlook : Pc (f_X11_look c_side c_many c_one c_two c_kinds c_kindBits c_netOf c_state c_stuck c_dusty c_joined c_live c_ground) (fun r => JI r.1 ∧ (∀ e, e < 954 → (¬ r.2.1 (rt (jn r.1) (nuM σ c_netOf e)) = 0 ↔ LV e)) ∧ ∀ e, e < 954 → (¬ r.2.2 (rt (jn r.1) (nuM σ c_netOf e)) = 0 ↔ GD e))) (hp : ∀ s : Nat, s < 5 → (parts s).toInt = (c_many (5 * σ + s)).toInt) (hc : ∀ r : Nat, (r : Int) < (parts 0).toInt → (cont r).toInt = (c_kinds (116 * σ + r)).toInt) : Pc (f_X11_net x1 x2 x3 c_side c_many c_one c_two c_kinds c_kindBits c_netOf c_state c_stuck c_dusty c_joined c_live c_ground) (fun r => (¬ VE x1 x2 x3 parts cont ∧ r.1 = -1) ∨ (VE x1 x2 x3 parts cont ∧ PWR (LV (rEnd x1.toInt.toNat x2.toInt.toNat x3.toInt.toNat)) (GD (rEnd x1.toInt.toNat x2.toInt.toNat x3.toInt.toNat)) r.1)) := by
  have hM' := hM
  obtain ⟨hs, hσ, m0, m1, m2, m3, m4, hK, hO1, hO⟩ := hM'
  have n93 := fun (x4 : Int32) (a : Nat) (hx : x4.toInt = a) (ha : a < 954) => m_net_93 _ _ _ _ _ _ _ _ _ _ x4 _ _ _ hM hlook a hx ha
  unfold f_X11_net
  have e5 : (5 : Int32).toInt = 5 := by decide
  have no : (¬ VE x1 x2 x3 parts cont) → Pc (some ((-1 : Int32), c_joined, c_live, c_ground)) (fun r => (¬ VE x1 x2 x3 parts cont ∧ r.1 = -1) ∨ (VE x1 x2 x3 parts cont ∧ PWR (LV (rEnd x1.toInt.toNat x2.toInt.toNat x3.toInt.toNat)) (GD (rEnd x1.toInt.toNat x2.toInt.toNat x3.toInt.toNat)) r.1)) := fun q => pc_some (.inl ⟨q, rfl⟩)
  refine pc_if (fun a => pc_if (fun b => pc_if (fun c => no ?_) (fun c => pc_if (fun d => ?_) (fun d => no ?_))) (fun b => no ?_)) (fun a => ?_)
  · rw [tI_lt, l_0] at c
    exact fun q => by have := q.2.1; omega
  · rw [tI_lt, l_0] at c
    rw [tI_le, l_1] at d
    refine pc_mono (n93 x3 x3.toInt.toNat (by omega) (by omega)) (fun r hr => .inr ⟨⟨.inr ⟨a, b⟩, by omega, ?_⟩, ?_⟩)
    · rw [a, if_neg (by decide)]; omega
    · rw [a, e5]
      exact hr
  · rw [tI_le, l_1] at d
    intro q
    have := q.2.2
    rw [a, if_neg (by decide)] at this
    omega
  · rintro ⟨q | q, -⟩
    · have := q.2.1
      rw [a, e5] at this
      omega
    · exact b q.2
  · have np : ¬ (0 ≤ x1.toInt ∧ x1.toInt < 5 ∧ 0 ≤ x2.toInt ∧ x2.toInt < (parts x1.toInt.toNat).toInt) → ¬ VE x1 x2 x3 parts cont := by
      rintro h ⟨q | q, -⟩
      · exact h q
      · exact a q.1
    refine pc_if (fun b => no (np ?_)) (fun b => pc_if (fun c => no (np ?_)) (fun c => pc_if (fun d => no (np ?_)) (fun d => ?_)))
    · rw [tI_lt, l_0] at b; omega
    · rw [tI_lt, l_4] at c; omega
    · rw [tI_lt, l_0] at d; omega
    rw [tI_lt, l_0] at b d
    rw [tI_lt, l_4] at c
    have p5 := hp x1.toInt.toNat (by omega)
    refine pc_eq (m_here _ _ _ hs hσ x1.toInt.toNat (by omega) (by omega)) (pc_if (fun f => no (np ?_)) (fun f => pc_if (fun g => no (fun q => ?_)) (fun g => ?_)))
    · rw [tI_le] at f; omega
    · rw [tI_lt, l_0] at g
      have := q.2.1; omega
    rw [tI_le] at f
    rw [tI_lt, l_0] at g
    have hP : hasP x1 x2 parts := ⟨by omega, by omega, by omega, by omega⟩
    refine pc_if (fun z => ?_) (fun z => ?_)
    · have z0 : x1.toInt.toNat = 0 := by rw [z]; decide
      rw [z0] at p5 f
      have hc2 := hc x2.toInt.toNat (by omega)
      have hk2 := hK (116 * σ + x2.toInt.toNat) (by omega)
      have ei : (116 * c_side + x2).toNatClampNeg = 116 * σ + x2.toInt.toNat := by
        have : (116 * c_side + x2).toInt = 116 * σ + x2.toInt := by ((try simp only [tI_lt, tI_le, tI_eq, tI_add, tI_sub, tI_mul, tI_nat, Int32.reduceToInt, Int.reduceToNat, fe_0, fe_1, fe_2, fe_3, fe_4, fe_5]) <;> (try simp (disch := omega) only [tI_bm]) <;> omega)
        rw [tI_nat, this]; omega
      refine pc_bad (fun _ => ?_)
      rw [ei]
      have ek : (3 * c_kinds (116 * σ + x2.toInt.toNat) + 1).toInt = 3 * (c_kinds (116 * σ + x2.toInt.toNat)).toInt + 1 := by
        generalize c_kinds (116 * σ + x2.toInt.toNat) = w at hk2 ⊢
        ((try simp only [tI_lt, tI_le, tI_eq, tI_add, tI_sub, tI_mul, tI_nat, Int32.reduceToInt, Int.reduceToNat, fe_0, fe_1, fe_2, fe_3, fe_4, fe_5]) <;> (try simp (disch := omega) only [tI_bm]) <;> omega)
      unfold f_X11_net_79
      refine pc_if (fun y => ?_) (fun y => no (fun q => ?_))
      · rw [tI_le, ek] at y
        have eo : f_X11_endOf x1 x2 x3 = some (2 + 20 * x2 + x3) := by rw [z]; rfl
        refine pc_eq eo (pc_mono (n93 (2 + 20 * x2 + x3) (2 + 20 * x2.toInt.toNat + x3.toInt.toNat) (by ((try simp only [tI_lt, tI_le, tI_eq, tI_add, tI_sub, tI_mul, tI_nat, Int32.reduceToInt, Int.reduceToNat, fe_0, fe_1, fe_2, fe_3, fe_4, fe_5]) <;> (try simp (disch := omega) only [tI_bm]) <;> omega)) (by omega)) (fun r hr => .inr ⟨⟨.inl hP, by omega, ?_⟩, ?_⟩))
        · rw [if_pos z]; omega
        · rw [z0]; exact hr
      · rw [tI_le, ek] at y
        have := q.2.2
        rw [if_pos z] at this
        omega
    · unfold f_X11_net_79
      have z0 : ¬ x1.toInt.toNat = 0 := fun q => z (Int32.toInt_inj.mp (by rw [l_0]; omega))
      refine pc_if (fun y => ?_) (fun y => no (fun q => ?_))
      · rw [tI_le, l_1] at y
        obtain ⟨fm, f1, f2⟩ := s_firstEnd x1 x1.toInt.toNat (by omega) (by omega) (by omega)
        have fb : feM x1.toInt.toNat ≤ 906 := by unfold feM; (repeat' split) <;> omega
        have b24 : x2.toInt < 24 := by
          have : x1.toInt.toNat = 1 ∨ x1.toInt.toNat = 2 ∨ x1.toInt.toNat = 3 ∨ x1.toInt.toNat = 4 := by omega
          rcases this with e | e | e | e <;> rw [e] at f <;> omega
        have eo : f_X11_endOf x1 x2 x3 = some (fm + 2 * x2 + x3) := by
          unfold f_X11_endOf
          rw [if_neg z, f1]
          rfl
        have ev : (fm + 2 * x2 + x3).toInt = ((feM x1.toInt.toNat + 2 * x2.toInt.toNat + x3.toInt.toNat : Nat) : Int) := by
          generalize feM x1.toInt.toNat = v at f2 fb ⊢
          ((try simp only [tI_lt, tI_le, tI_eq, tI_add, tI_sub, tI_mul, tI_nat, Int32.reduceToInt, Int.reduceToNat, fe_0, fe_1, fe_2, fe_3, fe_4, fe_5]) <;> (try simp (disch := omega) only [tI_bm]) <;> omega)
        refine pc_eq eo (pc_mono (n93 (fm + 2 * x2 + x3) (feM x1.toInt.toNat + 2 * x2.toInt.toNat + x3.toInt.toNat) ev (by omega)) (fun r hr => .inr ⟨⟨.inl hP, by omega, ?_⟩, ?_⟩))
        · rw [if_neg z]; omega
        · have : rEnd x1.toInt.toNat x2.toInt.toNat x3.toInt.toNat = feM x1.toInt.toNat + 2 * x2.toInt.toNat + x3.toInt.toNat := by
            unfold rEnd
            rw [if_neg z0, if_neg (by omega)]
          rw [this]; exact hr
      · rw [tI_le, l_1] at y
        have := q.2.2
        rw [if_neg z] at this
        omega
set_option maxHeartbeats 400000 in
theorem p_net (x1 : Int32) (x2 : Int32) (x3 : Int32) (c_machine_netlist_nets : Int32) (c_machine_netlist_parts : Nat → Int32) (c_machine_netlist_contacts : Nat → Int32) (c_machine_netlist_makes : Nat → Int32) (c_machine_netlist_period : Nat → Int32) (c_machine_netlist_onTime : Nat → Int32) (c_machine_netlist_netOf : Nat → Int32) (c_machine_wear_stuckAt : Nat → Int32) (c_machine_wear_dusty : Nat → Int32) (c_machine_ways_nets : Int32) (c_machine_ways_links : Int32) (c_machine_ways_firstLink : Nat → Int32) (c_machine_ways_nextLink : Nat → Int32) (c_machine_ways_leadsTo : Nat → Int32) (c_machine_ways_lets : Nat → Int32) (c_machine_ways_powers : Nat → Int32) (c_machine_ways_reached : Nat → Int32) (c_state_keys : Int32) (c_state_time : Int32) (c_state_positions : Nat → Int32) (c_machine_netlist_pickTime c_machine_netlist_dropTime : Nat → Int32) (c_side : Int32) (c_many c_one c_two c_kinds c_kindBits c_netOf c_stuck c_dusty c_state : Nat → Int32) (c_joined c_live c_ground : Nat → Int32) {S : List StT} {σ : Nat} {toldNets : Int32} {names : Nat → Nat → Int64} {told nameSize nm isTold : Nat → Int32} (hA : allPin S (pnsOf S)) (hI : IX S toldNets c_machine_netlist_parts names c_machine_netlist_pickTime c_machine_netlist_dropTime c_machine_netlist_contacts c_machine_netlist_makes c_machine_netlist_period c_machine_netlist_onTime) (hIM : IM S σ c_side c_many nameSize c_one c_two c_kinds c_kindBits nm c_netOf) (hNX : NETX S toldNets c_machine_netlist_nets told c_machine_netlist_netOf) (hNM : NETM σ S c_netOf isTold) (hW : WR c_machine_wear_stuckAt c_machine_wear_dusty c_stuck c_dusty) {c_state_picked : Int64} {c_state_counts : Nat → Int32} (hSR : SR (nkS S) c_state_picked c_state_keys c_state_time c_state_counts c_state_positions c_state) : P2 (f_X10_net x1 x2 x3 c_machine_netlist_nets c_machine_netlist_parts c_machine_netlist_contacts c_machine_netlist_makes c_machine_netlist_period c_machine_netlist_onTime c_machine_netlist_netOf c_machine_wear_stuckAt c_machine_wear_dusty c_machine_ways_nets c_machine_ways_links c_machine_ways_firstLink c_machine_ways_nextLink c_machine_ways_leadsTo c_machine_ways_lets c_machine_ways_powers c_machine_ways_reached c_state_keys c_state_time c_state_positions) (f_X11_net x1 x2 x3 c_side c_many c_one c_two c_kinds c_kindBits c_netOf c_state c_stuck c_dusty c_joined c_live c_ground) (fun rx rm => rx.1 = rm.1) := by
  have hr9 := m_net x1 x2 x3 c_side c_many c_one c_two c_kinds c_kindBits c_netOf c_state c_stuck c_dusty c_joined c_live c_ground hIM.1 (m_now c_side c_many c_one c_two c_kinds c_kindBits c_netOf c_state c_stuck c_dusty c_joined c_live c_ground hI hIM) (fun s hs => IXM_P hI hIM s hs) (fun r hr => IXM_C hI hIM r (by have := hI.1.2.2.2.1 0 (by decide); omega))
  refine p2_eqA (P := fun r => (¬ VE x1 x2 x3 c_machine_netlist_parts c_machine_netlist_contacts ∧ r.1 = -1) ∨ (VE x1 x2 x3 c_machine_netlist_parts c_machine_netlist_contacts ∧ PWR ((LVd 0 (nuM σ c_netOf) (JLT S σ c_one c_two c_kindBits c_stuck c_dusty c_state) (DLS S)) (rEnd x1.toInt.toNat x2.toInt.toNat x3.toInt.toNat)) ((LVd 1 (nuM σ c_netOf) (JLT S σ c_one c_two c_kindBits c_stuck c_dusty c_state) (rvL (DLS S))) (rEnd x1.toInt.toNat x2.toInt.toNat x3.toInt.toNat)) r.1)) ?_ hr9 (fun a b h k => ?_)
  · unfold f_X10_net
    refine pc_bind (x_endAt2 _ _ _ _ _ hI.1.2.1) (fun r1 h1 => ?_)
    rcases h1 with ⟨e, h1⟩ | ⟨h1, h2, h3⟩
    · rw [e, if_pos rfl]
      exact pc_some (.inl ⟨h1, rfl⟩)
    · rw [if_neg (fun q => by rw [q, l_m1] at h2; omega)]
      refine pc_bind (x_now c_machine_netlist_nets c_machine_netlist_parts c_machine_netlist_contacts c_machine_netlist_makes c_machine_netlist_period c_machine_netlist_onTime c_machine_netlist_netOf c_machine_wear_stuckAt c_machine_wear_dusty c_machine_ways_nets c_machine_ways_links c_machine_ways_firstLink c_machine_ways_nextLink c_machine_ways_leadsTo c_machine_ways_lets c_machine_ways_powers c_machine_ways_reached c_state_keys c_state_time c_state_positions c_machine_netlist_pickTime c_machine_netlist_dropTime c_side c_many c_one c_two c_kinds c_kindBits c_netOf c_stuck c_dusty c_state hA hI hIM hNX hNM hW hSR) (fun r2 q2 => ?_)
      obtain ⟨N, n1, n2, n3, n4⟩ := q2
      obtain ⟨g1, g2⟩ := rEnd_ok hI x1 x2 x3 h1
      exact pc_bind (x_powerAt (x1 := r1) (c_netlist_netOf := c_machine_netlist_netOf) (c_ways_nets := r2.1) (c_ways_powers := r2.2.2.2.2.2.2.1) (rEnd x1.toInt.toNat x2.toInt.toNat x3.toInt.toNat) (by rw [g2]; exact h3) g1 n1 n2 n3 n4) (fun r3 q3 => pc_some (.inr ⟨h1, q3⟩))
  · rcases h with ⟨h1, h2⟩ | ⟨h1, h2⟩ <;> rcases k with ⟨k1, k2⟩ | ⟨k1, k2⟩
    · rw [h2, k2]
    · exact absurd k1 h1
    · exact absurd h1 k1
    · exact PWR_eq h2 k2
