/-! the reference's look -/
def EQM (ν : Nat → Nat) (e f : Nat) : Prop := e < 954 ∧ f < 954 ∧ ν e = ν f
def LKP (ν : Nat → Nat) (JL DL : PL) (j : Nat → Nat) (live ground : Nat → Int32) : Prop := LST 0 (EQM ν) JL DL (fun e => e < 954) (fun e => ¬ live (rt j (ν e)) = 0) ∧ LST 1 (EQM ν) JL (rvL DL) (fun e => e < 954) (fun e => ¬ ground (rt j (ν e)) = 0)
set_option maxHeartbeats 400000 in
theorem accF_mem (g : Nat → Bool) (b : Nat) (p : Nat × Nat) : ∀ k, p ∈ accF g b k ↔ ∃ i, i < k ∧ g i = true ∧ p = (b + 2 * i, b + 2 * i + 1)
  | 0 => ⟨fun h => absurd h (List.not_mem_nil), fun ⟨i, h, _⟩ => absurd h (Nat.not_lt_zero _)⟩
  | k + 1 => by
    unfold accF
    rw [List.mem_append, accF_mem g b p k]
    constructor
    · rintro (h | ⟨i, h1, h2, h3⟩)
      · by_cases z : g k = true
        · rw [if_pos z] at h
          exact ⟨k, by omega, z, List.mem_singleton.mp h⟩
        · rw [if_neg z] at h; exact absurd h (List.not_mem_nil)
      · exact ⟨i, by omega, h2, h3⟩
    · rintro ⟨i, h1, h2, h3⟩
      by_cases z : i = k
      · subst z
        rw [if_pos h2]
        exact .inl (List.mem_singleton.mpr h3)
      · exact .inr ⟨i, by omega, h2, h3⟩
def FLI (ν : Nat → Nat) (JL DL : PL) (j : Nat → Nat) (live ground : Nat → Int32) : Prop := (∀ T, CLS 0 (EQM ν) JL DL T → ∀ e, e < 954 → ¬ live (rt j (ν e)) = 0 → T e) ∧ (∀ T, CLS 1 (EQM ν) JL (rvL DL) T → ∀ e, e < 954 → ¬ ground (rt j (ν e)) = 0 → T e) ∧ ¬ live (rt j (ν 0)) = 0 ∧ ¬ ground (rt j (ν 1)) = 0
def FLD (ν : Nat → Nat) (j : Nat → Nat) (k : Nat) (live ground : Nat → Int32) : Prop := ∀ i, i < k → (¬ live (rt j (ν (906 + 2 * i))) = 0 → ¬ live (rt j (ν (906 + 2 * i + 1))) = 0) ∧ (¬ ground (rt j (ν (906 + 2 * i + 1))) = 0 → ¬ ground (rt j (ν (906 + 2 * i))) = 0)
set_option maxHeartbeats 400000 in
theorem m_328 (k239 : Int32 → (Nat → Int32) → (Nat → Int32) → (Nat → Int32) → Option ((Nat → Int32) × (Nat → Int32) × (Nat → Int32))) (k247 : Int32 → Int32 → (Nat → Int32) → (Nat → Int32) → (Nat → Int32) → Option ((Nat → Int32) × (Nat → Int32) × (Nat → Int32))) (c_side : Int32) (c_many : Nat → Int32) (c_one : Nat → Int32) (c_two : Nat → Int32) (c_kinds : Nat → Int32) (c_kindBits : Nat → Int32) (c_netOf : Nat → Int32) (c_state : Nat → Int32) (c_stuck : Nat → Int32) (c_dusty : Nat → Int32) (x2 : Int32) (x3 : Int32) (x4 : Int32) (y0 : Int32) (c_joined : Nat → Int32) (c_live : Nat → Int32) (c_ground : Nat → Int32) (a b : Nat) (h3 : x3.toInt = a) (h4 : x4.toInt = b) {Q} (hk : ∀ lv gr : Nat → Int32, (∀ z, ¬ lv z = 0 ↔ (¬ c_live z = 0 ∨ (z = b ∧ ¬ c_live a = 0))) → (∀ z, ¬ gr z = 0 ↔ (¬ c_ground z = 0 ∨ (z = a ∧ ¬ c_ground b = 0))) → Pc (k247 y0 (x2 + 1) c_joined lv gr) Q) : Pc (f_X11_look_328 k239 k247 c_side c_many c_one c_two c_kinds c_kindBits c_netOf c_state c_stuck c_dusty x2 x3 x4 y0 c_joined c_live c_ground) Q := by
  have e3 : x3.toNatClampNeg = a := by rw [tI_nat]; omega
  have e4 : x4.toNatClampNeg = b := by rw [tI_nat]; omega
  have n1 : vp_nar .boolean (1 : Int32) = 1 := by decide
  have t359 : ∀ (y2 : Int32), (y2 = 1 ∨ y2 = 0) → (¬ y2 = 0 ↔ (¬ c_live b = 0 ∨ ¬ c_live a = 0)) → Pc (f_X11_look_359 k239 k247 c_side c_many c_one c_two c_kinds c_kindBits c_netOf c_state c_stuck c_dusty y0 x2 x3 x4 x4 y2 c_joined c_live c_ground) Q := by
    intro y2 hy hy2
    unfold f_X11_look_359
    have nb : vp_nar .boolean y2 = y2 := by rcases hy with q | q <;> rw [q] <;> decide
    refine pc_bad (fun _ => pc_vlet ?_)
    rw [nb, e4]
    have hl : ∀ z, ¬ upd c_live b y2 z = 0 ↔ (¬ c_live z = 0 ∨ (z = b ∧ ¬ c_live a = 0)) := by
      intro z
      rw [upd_at]
      by_cases q : z = b
      · rw [if_pos q, hy2, q]
        exact ⟨fun w => w.elim .inl (fun w => .inr ⟨rfl, w⟩), fun w => w.elim .inl (fun w => .inr w.2)⟩
      · rw [if_neg q]
        exact ⟨.inl, fun w => w.elim id (fun w => absurd w.1 q)⟩
    have t389 : ∀ (y3 : Int32), (y3 = 1 ∨ y3 = 0) → (¬ y3 = 0 ↔ (¬ c_ground a = 0 ∨ ¬ c_ground b = 0)) → Pc (f_X11_look_389 k239 k247 c_side c_many c_one c_two c_kinds c_kindBits c_netOf c_state c_stuck c_dusty y0 x2 x3 y3 c_joined (upd c_live b y2) c_ground) Q := by
      intro y3 hy3 hy4
      unfold f_X11_look_389
      have nb3 : vp_nar .boolean y3 = y3 := by rcases hy3 with q | q <;> rw [q] <;> decide
      refine pc_bad (fun _ => pc_vlet (pc_vlet ?_))
      rw [nb3, e3]
      refine hk _ _ hl (fun z => ?_)
      rw [upd_at]
      by_cases q : z = a
      · rw [if_pos q, hy4, q]
        exact ⟨fun w => w.elim .inl (fun w => .inr ⟨rfl, w⟩), fun w => w.elim .inl (fun w => .inr w.2)⟩
      · rw [if_neg q]
        exact ⟨.inl, fun w => w.elim id (fun w => absurd w.1 q)⟩
    unfold f_X11_look_384
    refine pc_bad (fun _ => ?_)
    rw [e3]
    refine pc_if (fun q => pc_bad (fun _ => ?_)) (fun q => t389 1 (.inl rfl) ⟨fun _ => .inl q, fun _ => by decide⟩)
    refine pc_if (fun w => t389 0 (.inr rfl) ⟨fun z => absurd rfl z, fun z => z.elim (fun z => absurd q z) (fun z => absurd w z)⟩) (fun w => t389 1 (.inl rfl) ⟨fun _ => .inr w, fun _ => by decide⟩)
  unfold f_X11_look_328 f_X11_look_354
  refine pc_bad (fun _ => ?_)
  rw [e4]
  refine pc_if (fun q => pc_bad (fun _ => ?_)) (fun q => t359 1 (.inl rfl) ⟨fun _ => .inl q, fun _ => by decide⟩)
  rw [e3]
  exact pc_if (fun w => t359 0 (.inr rfl) ⟨fun z => absurd rfl z, fun z => z.elim (fun z => absurd q z) (fun z => absurd w z)⟩) (fun w => t359 1 (.inl rfl) ⟨fun _ => .inr w, fun _ => by decide⟩)
set_option maxHeartbeats 400000 in
theorem m_247 (σ D : Nat) (k239 : Int32 → (Nat → Int32) → (Nat → Int32) → (Nat → Int32) → Option ((Nat → Int32) × (Nat → Int32) × (Nat → Int32))) (c_side : Int32) (c_many : Nat → Int32) (c_one : Nat → Int32) (c_two : Nat → Int32) (c_kinds : Nat → Int32) (c_kindBits : Nat → Int32) (c_netOf : Nat → Int32) (c_state : Nat → Int32) (c_stuck : Nat → Int32) (c_dusty : Nat → Int32) (hM : MI σ c_side c_many c_one c_kinds c_netOf) (hD : (c_many (5 * σ + 4)).toInt = D) (c_joined : Nat → Int32) (hJ : JI c_joined) {JL : PL} (hU : UFI (nuM σ c_netOf) JL (jn c_joined)) {Q} (hk : ∀ (x1 : Int32) (lv gr : Nat → Int32), FLI (nuM σ c_netOf) JL (accF (fun _ => true) 906 D) (jn c_joined) lv gr → (x1 = 0 → FLD (nuM σ c_netOf) (jn c_joined) D lv gr) → Pc (k239 x1 c_joined lv gr) Q) : ∀ (n : Nat) (x1 : Int32) (x2 : Int32) (c_live : Nat → Int32) (c_ground : Nat → Int32) (k : Nat), x2.toInt = k → k ≤ D → FLI (nuM σ c_netOf) JL (accF (fun _ => true) 906 D) (jn c_joined) c_live c_ground → (x1 = 0 → FLD (nuM σ c_netOf) (jn c_joined) k c_live c_ground) → Pc (f_X11_look_247 k239 c_side c_many c_one c_two c_kinds c_kindBits c_netOf c_state c_stuck c_dusty n x1 x2 c_joined c_live c_ground) Q
  | 0, _, _, _, _, k, h2, h3, hF, hd => pc_none
  | n + 1, x1, x2, c_live, c_ground, k, h2, h3, hF, hd => by
    unfold f_X11_look_247
    have hM' := hM
    obtain ⟨hs, hσ, m0, m1, m2, m3, m4, hK, hO1, hO⟩ := hM'
    refine pc_eq (s_X11_here σ 4 c_side c_many hs hσ (by decide) (by decide)) ?_
    rw [show (4 : Int32).toInt.toNat = 4 from by decide]
    refine pc_if (fun a => ?_) (fun a => ?_)
    · rw [tI_le] at a
      have : k = D := by omega
      subst this
      exact hk x1 c_live c_ground hF hd
    · rw [tI_le] at a
      have g1 : (906 + 2 * x2 + 0).toInt = ((906 + 2 * k : Nat) : Int) := by ((try simp only [tI_lt, tI_le, tI_eq, tI_add, tI_sub, tI_mul, tI_nat, Int32.reduceToInt, Int.reduceToNat, fe_0, fe_1, fe_2, fe_3, fe_4, fe_5]) <;> (try simp (disch := omega) only [tI_bm]) <;> omega)
      have g2 : (906 + 2 * x2 + 1).toInt = ((906 + 2 * k + 1 : Nat) : Int) := by ((try simp only [tI_lt, tI_le, tI_eq, tI_add, tI_sub, tI_mul, tI_nat, Int32.reduceToInt, Int.reduceToNat, fe_0, fe_1, fe_2, fe_3, fe_4, fe_5]) <;> (try simp (disch := omega) only [tI_bm]) <;> omega)
      refine pc_eq (s_endOf4 _ _) (pc_bind (m_group _ _ _ _ hs hσ hO hJ (906 + 2 * k) g1 (by omega)) (fun r3 q3 => pc_eq (s_endOf4 _ _) (pc_bind (m_group _ _ _ _ hs hσ hO hJ (906 + 2 * k + 1) g2 (by omega)) (fun r5 q5 => ?_))))
      have e3 : r3.toNatClampNeg = rt (jn c_joined) (nuM σ c_netOf (906 + 2 * k)) := by rw [tI_nat]; omega
      have e5 : r5.toNatClampNeg = rt (jn c_joined) (nuM σ c_netOf (906 + 2 * k + 1)) := by rw [tI_nat]; omega
      have ev : (x2 + 1).toInt = ((k + 1 : Nat) : Int) := by ((try simp only [tI_lt, tI_le, tI_eq, tI_add, tI_sub, tI_mul, tI_nat, Int32.reduceToInt, Int.reduceToNat, fe_0, fe_1, fe_2, fe_3, fe_4, fe_5]) <;> (try simp (disch := omega) only [tI_bm]) <;> omega)
      have inD : (906 + 2 * k, 906 + 2 * k + 1) ∈ accF (fun _ => true) 906 D := (accF_mem _ _ _ D).mpr ⟨k, by omega, rfl, rfl⟩
      -- on to the next diode
      have go : ∀ y0 : Int32, (y0 = 0 → x1 = 0 ∧ (¬ c_live (rt (jn c_joined) (nuM σ c_netOf (906 + 2 * k))) = 0 → ¬ c_live (rt (jn c_joined) (nuM σ c_netOf (906 + 2 * k + 1))) = 0) ∧ (¬ c_ground (rt (jn c_joined) (nuM σ c_netOf (906 + 2 * k + 1))) = 0 → ¬ c_ground (rt (jn c_joined) (nuM σ c_netOf (906 + 2 * k))) = 0)) → Pc (f_X11_look_328 k239 (f_X11_look_247 k239 c_side c_many c_one c_two c_kinds c_kindBits c_netOf c_state c_stuck c_dusty n) c_side c_many c_one c_two c_kinds c_kindBits c_netOf c_state c_stuck c_dusty x2 r3 r5 y0 c_joined c_live c_ground) Q := by
        intro y0 hy
        refine m_328 k239 _ _ _ _ _ _ _ _ _ _ _ _ _ _ _ _ _ _ _ _ q3 q5 (fun lv gr hl hg => ?_)
        obtain ⟨f1, f2, f3, f4⟩ := hF
        refine m_247 σ D k239 c_side c_many c_one c_two c_kinds c_kindBits c_netOf c_state c_stuck c_dusty hM hD c_joined hJ hU hk n y0 (x2 + 1) lv gr (k + 1) ev (by omega) ⟨fun T hT e he hm => ?_, fun T hT e he hm => ?_, (hl _).mpr (.inl f3), (hg _).mpr (.inl f4)⟩ (fun z => ?_)
        · rcases (hl _).mp hm with w | ⟨w1, w2⟩
          · exact f1 T hT e he w
          · have t1 := f1 T hT (906 + 2 * k) (by omega) w2
            have t2 := hT.2.2.2 _ inD t1
            exact hU.2 T (fun e f he hf q => hT.2.1 e f ⟨he, hf, q⟩) hT.2.2.1 (906 + 2 * k + 1) e (by omega) he w1.symm t2
        · rcases (hg _).mp hm with w | ⟨w1, w2⟩
          · exact f2 T hT e he w
          · have t1 := f2 T hT (906 + 2 * k + 1) (by omega) w2
            have t2 := hT.2.2.2 (906 + 2 * k + 1, 906 + 2 * k) (List.mem_map.mpr ⟨_, inD, rfl⟩) t1
            exact hU.2 T (fun e f he hf q => hT.2.1 e f ⟨he, hf, q⟩) hT.2.2.1 (906 + 2 * k) e (by omega) he w1.symm t2
        · obtain ⟨z1, z2, z3⟩ := hy z
          have old := hd z1
          have ll : ∀ u, ¬ lv u = 0 → ¬ c_live u = 0 := fun u w => ((hl u).mp w).elim id (fun w => by rw [w.1]; exact z2 w.2)
          have gg : ∀ u, ¬ gr u = 0 → ¬ c_ground u = 0 := fun u w => ((hg u).mp w).elim id (fun w => by rw [w.1]; exact z3 w.2)
          intro i hi
          by_cases y : i = k
          · rw [y]
            exact ⟨fun w => (hl _).mpr (.inl (z2 (ll _ w))), fun w => (hg _).mpr (.inl (z3 (gg _ w)))⟩
          · have o := old i (by omega)
            exact ⟨fun w => (hl _).mpr (.inl (o.1 (ll _ w))), fun w => (hg _).mpr (.inl (o.2 (gg _ w)))⟩
      have t323 : Pc (f_X11_look_323 k239 (f_X11_look_247 k239 c_side c_many c_one c_two c_kinds c_kindBits c_netOf c_state c_stuck c_dusty n) c_side c_many c_one c_two c_kinds c_kindBits c_netOf c_state c_stuck c_dusty x2 r3 r5 c_joined c_live c_ground) Q := by
        unfold f_X11_look_323
        exact go 1 (fun z => absurd z (by decide))
      have t304 : x1 = 0 → (¬ c_live (rt (jn c_joined) (nuM σ c_netOf (906 + 2 * k))) = 0 → ¬ c_live (rt (jn c_joined) (nuM σ c_netOf (906 + 2 * k + 1))) = 0) → Pc (f_X11_look_304 k239 (f_X11_look_247 k239 c_side c_many c_one c_two c_kinds c_kindBits c_netOf c_state c_stuck c_dusty n) c_side c_many c_one c_two c_kinds c_kindBits c_netOf c_state c_stuck c_dusty x2 r3 r5 c_joined c_live c_ground) Q := by
        intro hx hl
        unfold f_X11_look_304 f_X11_look_327
        refine pc_bad (fun _ => ?_)
        rw [e5]
        refine pc_if (fun q => go 0 (fun _ => ⟨hx, hl, fun w => absurd q w⟩)) (fun q => pc_bad (fun _ => ?_))
        rw [e3]
        exact pc_if (fun w => t323) (fun w => go 0 (fun _ => ⟨hx, hl, fun _ => w⟩))
      refine pc_if (fun hx => pc_bad (fun _ => ?_)) (fun _ => t323)
      rw [e3]
      refine pc_if (fun q => t304 hx (fun w => absurd q w)) (fun q => pc_bad (fun _ => ?_))
      rw [e5]
      exact pc_if (fun w => t323) (fun w => t304 hx (fun _ => w))
set_option maxHeartbeats 400000 in
theorem m_239 (σ D : Nat) (c_side : Int32) (c_many : Nat → Int32) (c_one : Nat → Int32) (c_two : Nat → Int32) (c_kinds : Nat → Int32) (c_kindBits : Nat → Int32) (c_netOf : Nat → Int32) (c_state : Nat → Int32) (c_stuck : Nat → Int32) (c_dusty : Nat → Int32) (hM : MI σ c_side c_many c_one c_kinds c_netOf) (hD : (c_many (5 * σ + 4)).toInt = D) (c_joined : Nat → Int32) (hJ : JI c_joined) {JL : PL} (hU : UFI (nuM σ c_netOf) JL (jn c_joined)) : ∀ (n : Nat) (x1 : Int32) (c_live : Nat → Int32) (c_ground : Nat → Int32), FLI (nuM σ c_netOf) JL (accF (fun _ => true) 906 D) (jn c_joined) c_live c_ground → (x1 = 0 → FLD (nuM σ c_netOf) (jn c_joined) D c_live c_ground) → Pc (f_X11_look_239 c_side c_many c_one c_two c_kinds c_kindBits c_netOf c_state c_stuck c_dusty n x1 c_joined c_live c_ground) (fun r => JI r.1 ∧ LKP (nuM σ c_netOf) JL (accF (fun _ => true) 906 D) (jn r.1) r.2.1 r.2.2)
  | 0, _, _, _, hF, hd => pc_none
  | n + 1, x1, c_live, c_ground, hF, hd => by
    unfold f_X11_look_239
    refine pc_if (fun a => pc_some ⟨hJ, ?_, ?_⟩) (fun a => ?_)
    · have hd' := hd a
      obtain ⟨f1, f2, f3, f4⟩ := hF
      refine ⟨⟨f3, fun e f q => by show ¬ c_live (rt (jn c_joined) (nuM σ c_netOf e)) = 0 → ¬ c_live (rt (jn c_joined) (nuM σ c_netOf f)) = 0; rw [q.2.2]; exact id, fun p hp => ?_, fun p hp => ?_⟩, fun T hT e he hm => f1 T hT e he hm⟩
      · show (¬ c_live (rt (jn c_joined) (nuM σ c_netOf p.1)) = 0 → ¬ c_live (rt (jn c_joined) (nuM σ c_netOf p.2)) = 0) ∧ (¬ c_live (rt (jn c_joined) (nuM σ c_netOf p.2)) = 0 → ¬ c_live (rt (jn c_joined) (nuM σ c_netOf p.1)) = 0)
        rw [hU.1 p hp]; exact ⟨id, id⟩
      · obtain ⟨i, i1, -, i3⟩ := (accF_mem _ _ _ D).mp hp
        rw [i3]
        exact (hd' i i1).1
    · have hd' := hd a
      obtain ⟨f1, f2, f3, f4⟩ := hF
      refine ⟨⟨f4, fun e f q => by show ¬ c_ground (rt (jn c_joined) (nuM σ c_netOf e)) = 0 → ¬ c_ground (rt (jn c_joined) (nuM σ c_netOf f)) = 0; rw [q.2.2]; exact id, fun p hp => ?_, fun p hp => ?_⟩, fun T hT e he hm => f2 T hT e he hm⟩
      · show (¬ c_ground (rt (jn c_joined) (nuM σ c_netOf p.1)) = 0 → ¬ c_ground (rt (jn c_joined) (nuM σ c_netOf p.2)) = 0) ∧ (¬ c_ground (rt (jn c_joined) (nuM σ c_netOf p.2)) = 0 → ¬ c_ground (rt (jn c_joined) (nuM σ c_netOf p.1)) = 0)
        rw [hU.1 p hp]; exact ⟨id, id⟩
      · obtain ⟨q, hq, rfl⟩ := List.mem_map.mp hp
        obtain ⟨i, i1, -, i3⟩ := (accF_mem _ _ _ D).mp hq
        rw [i3]
        exact (hd' i i1).2
    · exact m_247 σ D _ c_side c_many c_one c_two c_kinds c_kindBits c_netOf c_state c_stuck c_dusty hM hD c_joined hJ hU (fun y lv gr hF2 hd2 => m_239 σ D c_side c_many c_one c_two c_kinds c_kindBits c_netOf c_state c_stuck c_dusty hM hD c_joined hJ hU n y lv gr hF2 hd2) FU 0 0 c_live c_ground 0 (by decide) (Nat.zero_le _) hF (fun _ i hi => absurd hi (Nat.not_lt_zero _))
def onMB (σ : Nat) (one two state : Nat → Int32) (c : Nat) : Bool := isOnB (one (116 * σ + 88 + c)) (two (116 * σ + 88 + c)) (state 344)
def keyMB (state : Nat → Int32) (k : Nat) : Bool := decide (state (320 + k) = 1)
set_option maxHeartbeats 400000 in
theorem m_136 (σ C D : Nat) (c_side : Int32) (c_many : Nat → Int32) (c_one : Nat → Int32) (c_two : Nat → Int32) (c_kinds : Nat → Int32) (c_kindBits : Nat → Int32) (c_netOf : Nat → Int32) (c_state : Nat → Int32) (c_stuck : Nat → Int32) (c_dusty : Nat → Int32) (hM : MI σ c_side c_many c_one c_kinds c_netOf) (hC : (c_many (5 * σ + 3)).toInt = C) (hD : (c_many (5 * σ + 4)).toInt = D) {J0 : PL} : ∀ (n : Nat) (x1 : Int32) (c_joined : Nat → Int32) (c_live : Nat → Int32) (c_ground : Nat → Int32) (c : Nat), x1.toInt = c → c ≤ C → JI c_joined → UFI (nuM σ c_netOf) (accF (onMB σ c_one c_two c_state) 898 c ++ J0) (jn c_joined) → (∀ e : Nat, e < 954 → c_live e = 0 ∧ c_ground e = 0) → ∀ JL, JL = accF (onMB σ c_one c_two c_state) 898 C ++ J0 → Pc (f_X11_look_136 c_side c_many c_one c_two c_kinds c_kindBits c_netOf c_state c_stuck c_dusty n x1 c_joined c_live c_ground) (fun r => JI r.1 ∧ LKP (nuM σ c_netOf) JL (accF (fun _ => true) 906 D) (jn r.1) r.2.1 r.2.2)
  | 0, x1, c_joined, c_live, c_ground, c, h1, h2, hJ, hU, hz, JL, hJL => pc_none
  | n + 1, x1, c_joined, c_live, c_ground, c, h1, h2, hJ, hU, hz, JL, hJL => by
    unfold f_X11_look_136 f_X11_look_209
    have hM' := hM
    obtain ⟨hs, hσ, m0, m1, m2, m3, m4, hK, hO1, hO⟩ := hM'
    refine pc_eq (s_X11_here σ 3 c_side c_many hs hσ (by decide) (by decide)) ?_
    rw [show (3 : Int32).toInt.toNat = 3 from by decide]
    refine pc_if (fun a => ?_) (fun a => ?_)
    · rw [tI_le] at a
      have : c = C := by omega
      subst this
      rw [← hJL] at hU
      have n1 : vp_nar .boolean (1 : Int32) = 1 := by decide
      refine pc_bind (m_group _ _ _ _ hs hσ hO hJ 0 (by decide) (by decide)) (fun r2 q2 => pc_bad (fun b2 => pc_vlet (pc_bind (m_group _ _ _ _ hs hσ hO hJ 1 (by decide) (by decide)) (fun r5 q5 => pc_bad (fun b5 => pc_vlet ?_)))))
      have e2 : r2.toNatClampNeg = rt (jn c_joined) (nuM σ c_netOf 0) := by rw [tI_nat]; omega
      have e5 : r5.toNatClampNeg = rt (jn c_joined) (nuM σ c_netOf 1) := by rw [tI_nat]; omega
      rw [n1, e2, e5]
      have rlt : ∀ e, e < 954 → rt (jn c_joined) (nuM σ c_netOf e) < 954 := fun e he => by
        have := rt_le (jn c_joined) (nuM σ c_netOf e)
        have := hO e he
        unfold nuM at *
        omega
      refine m_239 σ D c_side c_many c_one c_two c_kinds c_kindBits c_netOf c_state c_stuck c_dusty hM hD c_joined hJ hU FU 1 _ _ ⟨fun T hT e he hm => ?_, fun T hT e he hm => ?_, ?_, ?_⟩ (fun z => absurd z (by decide))
      · rw [upd_at] at hm
        by_cases w : rt (jn c_joined) (nuM σ c_netOf e) = rt (jn c_joined) (nuM σ c_netOf 0)
        · exact hU.2 T (fun e f he hf q => hT.2.1 e f ⟨he, hf, q⟩) hT.2.2.1 0 e (by decide) he w.symm hT.1
        · rw [if_neg w] at hm
          exact absurd (hz _ (rlt e he)).1 hm
      · rw [upd_at] at hm
        by_cases w : rt (jn c_joined) (nuM σ c_netOf e) = rt (jn c_joined) (nuM σ c_netOf 1)
        · exact hU.2 T (fun e f he hf q => hT.2.1 e f ⟨he, hf, q⟩) hT.2.2.1 1 e (by decide) he w.symm hT.1
        · rw [if_neg w] at hm
          exact absurd (hz _ (rlt e he)).2 hm
      · rw [upd_at, if_pos rfl]; decide
      · rw [upd_at, if_pos rfl]; decide
    · rw [tI_le] at a
      have c4 : c < 4 := by omega
      have e88 : ((116 * c_side + 88) + x1).toNatClampNeg = 116 * σ + 88 + c := by
        have : ((116 * c_side + 88) + x1).toInt = 116 * σ + 88 + c := by ((try simp only [tI_lt, tI_le, tI_eq, tI_add, tI_sub, tI_mul, tI_nat, Int32.reduceToInt, Int.reduceToNat, fe_0, fe_1, fe_2, fe_3, fe_4, fe_5]) <;> (try simp (disch := omega) only [tI_bm]) <;> omega)
        rw [tI_nat]; omega
      have pos := hO1 c (by omega)
      have ev : (x1 + 1).toInt = ((c + 1 : Nat) : Int) := by ((try simp only [tI_lt, tI_le, tI_eq, tI_add, tI_sub, tI_mul, tI_nat, Int32.reduceToInt, Int.reduceToNat, fe_0, fe_1, fe_2, fe_3, fe_4, fe_5]) <;> (try simp (disch := omega) only [tI_bm]) <;> omega)
      have hst : ∀ b : Bool, onMB σ c_one c_two c_state c = b → accF (onMB σ c_one c_two c_state) 898 (c + 1) ++ J0 = (if b = true then [(898 + 2 * c, 898 + 2 * c + 1)] else []) ++ (accF (onMB σ c_one c_two c_state) 898 c ++ J0) := by
        intro b hb
        show ((if onMB σ c_one c_two c_state c = true then [(898 + 2 * c, 898 + 2 * c + 1)] else []) ++ accF (onMB σ c_one c_two c_state) 898 c) ++ J0 = _
        rw [hb, List.append_assoc]
      refine pc_bad (fun _ => pc_bad (fun _ => pc_if (fun _ => pc_none) (fun _ => pc_bad (fun _ => ?_))))
      rw [e88, show (344 : Int32).toNatClampNeg = 344 from by decide]
      refine pc_if (fun b => pc_vlet ?_) (fun b => ?_)
      · rw [tI_le] at b
        have ob : onMB σ c_one c_two c_state c = false := by
          unfold onMB isOnB
          rw [decide_eq_false_iff_not]
          omega
        refine m_136 σ C D c_side c_many c_one c_two c_kinds c_kindBits c_netOf c_state c_stuck c_dusty hM hC hD n _ _ _ _ (c + 1) ev (by omega) hJ ?_ hz JL hJL
        rw [hst false ob, if_neg (by decide), List.nil_append]
        exact hU
      · rw [tI_le] at b
        have ob : onMB σ c_one c_two c_state c = true := by
          unfold onMB isOnB
          rw [decide_eq_true_eq]
          omega
        have g1 : (898 + 2 * x1 + 0).toInt = ((898 + 2 * c : Nat) : Int) := by ((try simp only [tI_lt, tI_le, tI_eq, tI_add, tI_sub, tI_mul, tI_nat, Int32.reduceToInt, Int.reduceToNat, fe_0, fe_1, fe_2, fe_3, fe_4, fe_5]) <;> (try simp (disch := omega) only [tI_bm]) <;> omega)
        have g2 : (898 + 2 * x1 + 1).toInt = ((898 + 2 * c + 1 : Nat) : Int) := by ((try simp only [tI_lt, tI_le, tI_eq, tI_add, tI_sub, tI_mul, tI_nat, Int32.reduceToInt, Int.reduceToNat, fe_0, fe_1, fe_2, fe_3, fe_4, fe_5]) <;> (try simp (disch := omega) only [tI_bm]) <;> omega)
        refine pc_eq (s_endOf3 _ _) (pc_eq (s_endOf3 _ _) (pc_bind (m_both (898 + 2 * c, 898 + 2 * c + 1) _ _ _ _ _ hs hσ hO hJ g1 g2 ⟨by show 898 + 2 * c < 954; omega, by show 898 + 2 * c + 1 < 954; omega⟩ hU) (fun r14 q14 => pc_vlet ?_)))
        refine m_136 σ C D c_side c_many c_one c_two c_kinds c_kindBits c_netOf c_state c_stuck c_dusty hM hC hD n _ _ _ _ (c + 1) ev (by omega) q14.1 ?_ hz JL hJL
        rw [hst true ob, if_pos rfl]
        exact q14.2
set_option maxHeartbeats 400000 in
theorem m_87 (σ K C D : Nat) (c_side : Int32) (c_many : Nat → Int32) (c_one : Nat → Int32) (c_two : Nat → Int32) (c_kinds : Nat → Int32) (c_kindBits : Nat → Int32) (c_netOf : Nat → Int32) (c_state : Nat → Int32) (c_stuck : Nat → Int32) (c_dusty : Nat → Int32) (hM : MI σ c_side c_many c_one c_kinds c_netOf) (hK' : (c_many (5 * σ + 1)).toInt = K) (hC : (c_many (5 * σ + 3)).toInt = C) (hD : (c_many (5 * σ + 4)).toInt = D) {J0 : PL} : ∀ (n : Nat) (x1 : Int32) (c_joined : Nat → Int32) (c_live : Nat → Int32) (c_ground : Nat → Int32) (k : Nat), x1.toInt = k → k ≤ K → JI c_joined → UFI (nuM σ c_netOf) (accF (keyMB c_state) 802 k ++ J0) (jn c_joined) → (∀ e : Nat, e < 954 → c_live e = 0 ∧ c_ground e = 0) → ∀ JL, JL = accF (onMB σ c_one c_two c_state) 898 C ++ (accF (keyMB c_state) 802 K ++ J0) → Pc (f_X11_look_87 c_side c_many c_one c_two c_kinds c_kindBits c_netOf c_state c_stuck c_dusty n x1 c_joined c_live c_ground) (fun r => JI r.1 ∧ LKP (nuM σ c_netOf) JL (accF (fun _ => true) 906 D) (jn r.1) r.2.1 r.2.2)
  | 0, x1, c_joined, c_live, c_ground, k, h1, h2, hJ, hU, hz, JL, hJL => pc_none
  | n + 1, x1, c_joined, c_live, c_ground, k, h1, h2, hJ, hU, hz, JL, hJL => by
    unfold f_X11_look_87 f_X11_look_128
    have hM' := hM
    obtain ⟨hs, hσ, m0, m1, m2, m3, m4, hK, hO1, hO⟩ := hM'
    refine pc_eq (s_X11_here σ 1 c_side c_many hs hσ (by decide) (by decide)) ?_
    rw [show (1 : Int32).toInt.toNat = 1 from by decide]
    refine pc_if (fun a => ?_) (fun a => ?_)
    · rw [tI_le] at a
      have : k = K := by omega
      subst this
      exact m_136 σ C D c_side c_many c_one c_two c_kinds c_kindBits c_netOf c_state c_stuck c_dusty hM hC hD FU _ _ _ _ 0 (by decide) (Nat.zero_le _) hJ hU hz JL hJL
    · rw [tI_le] at a
      have ev : (x1 + 1).toInt = ((k + 1 : Nat) : Int) := by ((try simp only [tI_lt, tI_le, tI_eq, tI_add, tI_sub, tI_mul, tI_nat, Int32.reduceToInt, Int.reduceToNat, fe_0, fe_1, fe_2, fe_3, fe_4, fe_5]) <;> (try simp (disch := omega) only [tI_bm]) <;> omega)
      have e320 : (320 + x1).toNatClampNeg = 320 + k := by
        have : (320 + x1).toInt = 320 + k := by ((try simp only [tI_lt, tI_le, tI_eq, tI_add, tI_sub, tI_mul, tI_nat, Int32.reduceToInt, Int.reduceToNat, fe_0, fe_1, fe_2, fe_3, fe_4, fe_5]) <;> (try simp (disch := omega) only [tI_bm]) <;> omega)
        rw [tI_nat]; omega
      have hst : ∀ b : Bool, keyMB c_state k = b → accF (keyMB c_state) 802 (k + 1) ++ J0 = (if b = true then [(802 + 2 * k, 802 + 2 * k + 1)] else []) ++ (accF (keyMB c_state) 802 k ++ J0) := by
        intro b hb
        show ((if keyMB c_state k = true then [(802 + 2 * k, 802 + 2 * k + 1)] else []) ++ accF (keyMB c_state) 802 k) ++ J0 = _
        rw [hb, List.append_assoc]
      refine pc_bad (fun _ => ?_)
      rw [e320]
      refine pc_if (fun b => ?_) (fun b => pc_vlet ?_)
      · have ob : keyMB c_state k = true := by unfold keyMB; rw [decide_eq_true_eq]; exact b
        have g1 : (802 + 2 * x1 + 0).toInt = ((802 + 2 * k : Nat) : Int) := by ((try simp only [tI_lt, tI_le, tI_eq, tI_add, tI_sub, tI_mul, tI_nat, Int32.reduceToInt, Int.reduceToNat, fe_0, fe_1, fe_2, fe_3, fe_4, fe_5]) <;> (try simp (disch := omega) only [tI_bm]) <;> omega)
        have g2 : (802 + 2 * x1 + 1).toInt = ((802 + 2 * k + 1 : Nat) : Int) := by ((try simp only [tI_lt, tI_le, tI_eq, tI_add, tI_sub, tI_mul, tI_nat, Int32.reduceToInt, Int.reduceToNat, fe_0, fe_1, fe_2, fe_3, fe_4, fe_5]) <;> (try simp (disch := omega) only [tI_bm]) <;> omega)
        refine pc_eq (s_endOf1 _ _) (pc_eq (s_endOf1 _ _) (pc_bind (m_both (802 + 2 * k, 802 + 2 * k + 1) _ _ _ _ _ hs hσ hO hJ g1 g2 ⟨by show 802 + 2 * k < 954; omega, by show 802 + 2 * k + 1 < 954; omega⟩ hU) (fun r14 q14 => pc_vlet ?_)))
        refine m_87 σ K C D c_side c_many c_one c_two c_kinds c_kindBits c_netOf c_state c_stuck c_dusty hM hK' hC hD n _ _ _ _ (k + 1) ev (by omega) q14.1 ?_ hz JL hJL
        rw [hst true ob, if_pos rfl]
        exact q14.2
      · have ob : keyMB c_state k = false := by unfold keyMB; rw [decide_eq_false_iff_not]; exact b
        refine m_87 σ K C D c_side c_many c_one c_two c_kinds c_kindBits c_netOf c_state c_stuck c_dusty hM hK' hC hD n _ _ _ _ (k + 1) ev (by omega) hJ ?_ hz JL hJL
        rw [hst false ob, if_neg (by decide), List.nil_append]
        exact hU
set_option maxHeartbeats 400000 in
theorem m_49 (σ R : Nat) (k38 : Int32 → (Nat → Int32) → (Nat → Int32) → (Nat → Int32) → Option ((Nat → Int32) × (Nat → Int32) × (Nat → Int32))) (c_side : Int32) (c_many : Nat → Int32) (c_one : Nat → Int32) (c_two : Nat → Int32) (c_kinds : Nat → Int32) (c_kindBits : Nat → Int32) (c_netOf : Nat → Int32) (c_state : Nat → Int32) (c_stuck : Nat → Int32) (c_dusty : Nat → Int32) (hM : MI σ c_side c_many c_one c_kinds c_netOf) (nk : Nat → Nat) (J0 : PL) (r : Nat) (hr : r < R) (r40 : R ≤ 40) (hnk : ∀ r, r < R → (c_kinds (116 * σ + r)).toInt = nk r ∧ nk r ≤ 6) (lv gr : Nat → Int32) {Q} (hk : ∀ (y : Int32) (j : Nat → Int32), y.toInt = r + 1 → JI j → UFI (nuM σ c_netOf) (accC (efM σ c_kindBits c_stuck c_dusty c_state) r (nk r) ++ J0) (jn j) → Pc (k38 y j lv gr) Q) : ∀ (n : Nat) (x1 : Int32) (x2 : Int32) (c_joined : Nat → Int32) (c_live : Nat → Int32) (c_ground : Nat → Int32) (c : Nat), x1.toInt = r → x2.toInt = c → c ≤ nk r → c_live = lv → c_ground = gr → JI c_joined → UFI (nuM σ c_netOf) (accC (efM σ c_kindBits c_stuck c_dusty c_state) r c ++ J0) (jn c_joined) → Pc (f_X11_look_49 k38 c_side c_many c_one c_two c_kinds c_kindBits c_netOf c_state c_stuck c_dusty n x1 x2 c_joined c_live c_ground) Q
  | 0, x1, x2, c_joined, c_live, c_ground, c, h1, h2, h3, e1, e2, hJ, hU => pc_none
  | n + 1, x1, x2, c_joined, c_live, c_ground, c, h1, h2, h3, e1, e2, hJ, hU => by
    unfold f_X11_look_49
    subst e1 e2
    have hM' := hM
    obtain ⟨hs, hσ, m0, m1, m2, m3, m4, hK, hO1, hO⟩ := hM'
    have eb : (116 * c_side + x1).toNatClampNeg = 116 * σ + r := by
      have : (116 * c_side + x1).toInt = 116 * σ + r := by ((try simp only [tI_lt, tI_le, tI_eq, tI_add, tI_sub, tI_mul, tI_nat, Int32.reduceToInt, Int.reduceToNat, fe_0, fe_1, fe_2, fe_3, fe_4, fe_5]) <;> (try simp (disch := omega) only [tI_bm]) <;> omega)
      rw [tI_nat]; omega
    have nr := hnk r hr
    refine pc_bad (fun _ => ?_)
    rw [eb]
    refine pc_if (fun a => pc_vlet ?_) (fun a => ?_)
    · rw [tI_le] at a
      have : c = nk r := by omega
      subst this
      exact hk _ c_joined (by ((try simp only [tI_lt, tI_le, tI_eq, tI_add, tI_sub, tI_mul, tI_nat, Int32.reduceToInt, Int.reduceToNat, fe_0, fe_1, fe_2, fe_3, fe_4, fe_5]) <;> (try simp (disch := omega) only [tI_bm]) <;> omega)) hJ hU
    · rw [tI_le] at a
      have ev : (x2 + 1).toInt = ((c + 1 : Nat) : Int) := by ((try simp only [tI_lt, tI_le, tI_eq, tI_add, tI_sub, tI_mul, tI_nat, Int32.reduceToInt, Int.reduceToNat, fe_0, fe_1, fe_2, fe_3, fe_4, fe_5]) <;> (try simp (disch := omega) only [tI_bm]) <;> omega)
      refine pc_bind (m_contact r c _ _ _ _ _ _ _ _ _ hs hσ hO hJ h1 h2 (by omega) (by omega) hU) (fun r3 q3 => pc_vlet ?_)
      refine m_49 σ R k38 c_side c_many c_one c_two c_kinds c_kindBits c_netOf c_state c_stuck c_dusty hM nk J0 r hr r40 hnk c_live c_ground hk n _ _ _ _ _ (c + 1) h1 ev (by omega) rfl rfl q3.1 ?_
      unfold accC
      rw [List.append_assoc]
      exact q3.2
set_option maxHeartbeats 400000 in
theorem m_38 (σ R K C D : Nat) (c_side : Int32) (c_many : Nat → Int32) (c_one : Nat → Int32) (c_two : Nat → Int32) (c_kinds : Nat → Int32) (c_kindBits : Nat → Int32) (c_netOf : Nat → Int32) (c_state : Nat → Int32) (c_stuck : Nat → Int32) (c_dusty : Nat → Int32) (hM : MI σ c_side c_many c_one c_kinds c_netOf) (nk : Nat → Nat) (hR : (c_many (5 * σ + 0)).toInt = R) (hnk : ∀ r, r < R → (c_kinds (116 * σ + r)).toInt = nk r ∧ nk r ≤ 6) (hK' : (c_many (5 * σ + 1)).toInt = K) (hC : (c_many (5 * σ + 3)).toInt = C) (hD : (c_many (5 * σ + 4)).toInt = D) : ∀ (n : Nat) (x1 : Int32) (c_joined : Nat → Int32) (c_live : Nat → Int32) (c_ground : Nat → Int32) (r : Nat), x1.toInt = r → r ≤ R → JI c_joined → UFI (nuM σ c_netOf) (accR (efM σ c_kindBits c_stuck c_dusty c_state) nk r) (jn c_joined) → (∀ e : Nat, e < 954 → c_live e = 0 ∧ c_ground e = 0) → ∀ JL, JL = accF (onMB σ c_one c_two c_state) 898 C ++ (accF (keyMB c_state) 802 K ++ accR (efM σ c_kindBits c_stuck c_dusty c_state) nk R) → Pc (f_X11_look_38 c_side c_many c_one c_two c_kinds c_kindBits c_netOf c_state c_stuck c_dusty n x1 c_joined c_live c_ground) (fun r => JI r.1 ∧ LKP (nuM σ c_netOf) JL (accF (fun _ => true) 906 D) (jn r.1) r.2.1 r.2.2)
  | 0, x1, c_joined, c_live, c_ground, r, h1, h2, hJ, hU, hz, JL, hJL => pc_none
  | n + 1, x1, c_joined, c_live, c_ground, r, h1, h2, hJ, hU, hz, JL, hJL => by
    unfold f_X11_look_38
    have hM' := hM
    obtain ⟨hs, hσ, m0, m1, m2, m3, m4, hK, hO1, hO⟩ := hM'
    refine pc_eq (s_X11_here σ 0 c_side c_many hs hσ (by decide) (by decide)) ?_
    rw [show (0 : Int32).toInt.toNat = 0 from by decide]
    refine pc_if (fun a => ?_) (fun a => ?_)
    · rw [tI_le] at a
      have : r = R := by omega
      subst this
      exact m_87 σ K C D c_side c_many c_one c_two c_kinds c_kindBits c_netOf c_state c_stuck c_dusty hM hK' hC hD FU _ _ _ _ 0 (by decide) (Nat.zero_le _) hJ hU hz JL hJL
    · rw [tI_le] at a
      refine m_49 σ R _ c_side c_many c_one c_two c_kinds c_kindBits c_netOf c_state c_stuck c_dusty hM nk _ r (by omega) (by omega) hnk c_live c_ground (fun y j hy hj hu => m_38 σ R K C D c_side c_many c_one c_two c_kinds c_kindBits c_netOf c_state c_stuck c_dusty hM nk hR hnk hK' hC hD n y j c_live c_ground (r + 1) (by rw [hy]; rfl) (by omega) hj hu hz JL hJL) FU _ _ _ _ _ 0 h1 (by decide) (Nat.zero_le _) rfl rfl hJ hU
set_option maxHeartbeats 400000 in
theorem m_2 (σ R K C D : Nat) (c_side : Int32) (c_many : Nat → Int32) (c_one : Nat → Int32) (c_two : Nat → Int32) (c_kinds : Nat → Int32) (c_kindBits : Nat → Int32) (c_netOf : Nat → Int32) (c_state : Nat → Int32) (c_stuck : Nat → Int32) (c_dusty : Nat → Int32) (hM : MI σ c_side c_many c_one c_kinds c_netOf) (nk : Nat → Nat) (hR : (c_many (5 * σ + 0)).toInt = R) (hnk : ∀ r, r < R → (c_kinds (116 * σ + r)).toInt = nk r ∧ nk r ≤ 6) (hK' : (c_many (5 * σ + 1)).toInt = K) (hC : (c_many (5 * σ + 3)).toInt = C) (hD : (c_many (5 * σ + 4)).toInt = D) : ∀ (n : Nat) (x1 : Int32) (c_joined : Nat → Int32) (c_live : Nat → Int32) (c_ground : Nat → Int32) (k : Nat), x1.toInt = k → k ≤ 954 → (∀ e : Nat, e < k → (c_joined e).toInt = e ∧ c_live e = 0 ∧ c_ground e = 0) → ∀ JL, JL = accF (onMB σ c_one c_two c_state) 898 C ++ (accF (keyMB c_state) 802 K ++ accR (efM σ c_kindBits c_stuck c_dusty c_state) nk R) → Pc (f_X11_look_2 c_side c_many c_one c_two c_kinds c_kindBits c_netOf c_state c_stuck c_dusty n x1 c_joined c_live c_ground) (fun r => JI r.1 ∧ LKP (nuM σ c_netOf) JL (accF (fun _ => true) 906 D) (jn r.1) r.2.1 r.2.2)
  | 0, x1, c_joined, c_live, c_ground, k, h1, h2, hz, JL, hJL => pc_none
  | n + 1, x1, c_joined, c_live, c_ground, k, h1, h2, hz, JL, hJL => by
    unfold f_X11_look_2
    refine pc_if (fun a => ?_) (fun a => ?_)
    · rw [tI_le, l_954] at a
      have : k = 954 := by omega
      subst this
      have ri : ∀ x, rt (jn c_joined) x = x := fun x => rt_n (by
        unfold jn
        by_cases y : x < 954
        · rw [if_pos y]; have := (hz x y).1; omega
        · rw [if_neg y]; omega)
      refine m_38 σ R K C D c_side c_many c_one c_two c_kinds c_kindBits c_netOf c_state c_stuck c_dusty hM nk hR hnk hK' hC hD FU _ _ _ _ 0 (by decide) (Nat.zero_le _) (fun e he => by have := (hz e he).1; omega) ⟨fun p hp => absurd hp (List.not_mem_nil), fun T t1 _ e f he hf hr ht => ?_⟩ (fun e he => (hz e he).2) JL hJL
      rw [ri, ri] at hr
      exact t1 e f he hf hr ht
    · rw [tI_le, l_954] at a
      refine pc_bad (fun _ => pc_vlet (pc_bad (fun _ => pc_vlet (pc_bad (fun _ => pc_vlet (pc_vlet ?_))))))
      have ek : x1.toNatClampNeg = k := by rw [tI_nat]; omega
      rw [ek, nar0]
      refine m_2 σ R K C D c_side c_many c_one c_two c_kinds c_kindBits c_netOf c_state c_stuck c_dusty hM nk hR hnk hK' hC hD n _ _ _ _ (k + 1) (by ((try simp only [tI_lt, tI_le, tI_eq, tI_add, tI_sub, tI_mul, tI_nat, Int32.reduceToInt, Int.reduceToNat, fe_0, fe_1, fe_2, fe_3, fe_4, fe_5]) <;> (try simp (disch := omega) only [tI_bm]) <;> omega)) (by omega) (fun e he => ?_) JL hJL
      rw [upd_at, upd_at, upd_at]
      by_cases z : e = k
      · rw [if_pos z, if_pos z, if_pos z]; exact ⟨by omega, rfl, rfl⟩
      · rw [if_neg z, if_neg z, if_neg z]; exact hz e (by omega)
set_option maxHeartbeats 400000 in
theorem m_look (σ R K C D : Nat) (c_side : Int32) (c_many : Nat → Int32) (c_one : Nat → Int32) (c_two : Nat → Int32) (c_kinds : Nat → Int32) (c_kindBits : Nat → Int32) (c_netOf : Nat → Int32) (c_state : Nat → Int32) (c_stuck : Nat → Int32) (c_dusty : Nat → Int32) (c_joined : Nat → Int32) (c_live : Nat → Int32) (c_ground : Nat → Int32) (hM : MI σ c_side c_many c_one c_kinds c_netOf) (nk : Nat → Nat) (hR : (c_many (5 * σ + 0)).toInt = R) (hnk : ∀ r, r < R → (c_kinds (116 * σ + r)).toInt = nk r ∧ nk r ≤ 6) (hK' : (c_many (5 * σ + 1)).toInt = K) (hC : (c_many (5 * σ + 3)).toInt = C) (hD : (c_many (5 * σ + 4)).toInt = D) {JL : PL} (hJL : JL = accF (onMB σ c_one c_two c_state) 898 C ++ (accF (keyMB c_state) 802 K ++ accR (efM σ c_kindBits c_stuck c_dusty c_state) nk R)) : Pc (f_X11_look c_side c_many c_one c_two c_kinds c_kindBits c_netOf c_state c_stuck c_dusty c_joined c_live c_ground) (fun r => JI r.1 ∧ LKP (nuM σ c_netOf) JL (accF (fun _ => true) 906 D) (jn r.1) r.2.1 r.2.2) := by
  unfold f_X11_look
  exact m_2 σ R K C D c_side c_many c_one c_two c_kinds c_kindBits c_netOf c_state c_stuck c_dusty hM nk hR hnk hK' hC hD FU _ _ _ _ 0 (by decide) (Nat.zero_le _) (fun e he => absurd he (Nat.not_lt_zero _)) JL hJL
