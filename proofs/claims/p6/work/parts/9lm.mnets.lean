/-! the reference's nets: joining, wires, all of them -/
def jM (φ : Nat) (netOf : Nat → Int32) (e : Nat) : Nat := if e < 954 then (netOf (954 * φ + e)).toInt.toNat else e
set_option maxHeartbeats 400000 in
theorem jM_at {φ : Nat} {netOf : Nat → Int32} {e : Nat} (h : e < 954) : jM φ netOf e = (netOf (954 * φ + e)).toInt.toNat := if_pos h
set_option maxHeartbeats 400000 in
theorem jM_upd {φ x m : Nat} {netOf : Nat → Int32} {v : Int32} (hx : x < 954) (hv : v.toInt = m) : jM φ (upd netOf (954 * φ + x) v) = fun y => if y = x then m else jM φ netOf y := by
  funext y
  unfold jM
  by_cases z : y = x
  · rw [if_pos (by omega), upd_at, if_pos (by omega), if_pos z]; omega
  · rw [if_neg z]
    by_cases w : y < 954
    · rw [if_pos w, if_pos w, upd_at, if_neg (by omega)]
    · rw [if_neg w, if_neg w]
set_option maxHeartbeats 400000 in
theorem m_rootOf_2 (c_netOf : Nat → Int32) (φ : Nat) (hφ : φ ≤ 1) (hN : NI (954 * φ) c_netOf) : ∀ (n : Nat) (x1 : Int32) (x3 : Int32), x1.toInt = 954 * φ → 0 ≤ x3.toInt → x3.toInt < 954 → Pc (f_X11_rootOf_2 c_netOf n x1 x3) (fun r => r.toInt = rt (jM φ c_netOf) x3.toInt.toNat)
  | 0, x1, x3, h1, h2, h3 => pc_none
  | n + 1, x1, x3, h1, h2, h3 => by
    unfold f_X11_rootOf_2
    have e1 : (x1 + x3).toInt = 954 * φ + x3.toInt := by ((try simp only [tI_lt, tI_le, tI_eq, tI_add, tI_sub, tI_mul, tI_nat, Int32.reduceToInt, Int.reduceToNat, fe_0, fe_1, fe_2, fe_3, fe_4, fe_5]) <;> (try simp (disch := omega) only [tI_bm]) <;> omega)
    have e2 : (x1 + x3).toNatClampNeg = 954 * φ + x3.toInt.toNat := by rw [tI_nat, e1]; omega
    have nn := hN x3.toInt.toNat (by omega)
    have ea : jM φ c_netOf x3.toInt.toNat = (c_netOf (954 * φ + x3.toInt.toNat)).toInt.toNat := jM_at (by omega)
    refine pc_bad (fun _ => ?_)
    rw [e2]
    refine pc_if (fun a => pc_some ?_) (fun a => pc_bad (fun _ => pc_vlet ?_))
    · rw [rt_n (by rw [ea, a]; exact Nat.lt_irrefl _)]; omega
    · have a2 : ¬ (c_netOf (954 * φ + x3.toInt.toNat)).toInt = x3.toInt := fun q => a (Int32.toInt_inj.mp q)
      refine pc_mono (m_rootOf_2 c_netOf φ hφ hN n x1 _ h1 nn.1 (by omega)) (fun r hr => ?_)
      rw [hr, rt_s (j := jM φ c_netOf) (x := x3.toInt.toNat) (by rw [ea]; omega), ea]
set_option maxHeartbeats 400000 in
theorem m_rootOf (x1 : Int32) (x2 : Int32) (c_netOf : Nat → Int32) (φ : Nat) (hφ : φ ≤ 1) (hN : NI (954 * φ) c_netOf) (x : Nat) (h1 : x1.toInt = 954 * φ) (h2 : x2.toInt = x) (h3 : x < 954) : Pc (f_X11_rootOf x1 x2 c_netOf) (fun r => r.toInt = rt (jM φ c_netOf) x) := by
  unfold f_X11_rootOf
  refine pc_mono (m_rootOf_2 c_netOf φ hφ hN FU _ _ h1 (by omega) (by omega)) (fun r hr => ?_)
  rw [hr, show x2.toInt.toNat = x by omega]
set_option maxHeartbeats 400000 in
theorem m_join (x1 : Int32) (x2 : Int32) (x3 : Int32) (c_netOf : Nat → Int32) (φ : Nat) (hφ : φ ≤ 1) (hN : NI (954 * φ) c_netOf) (a b : Nat) (h1 : x1.toInt = 954 * φ) (h2 : x2.toInt = a) (h3 : x3.toInt = b) (ha : a < 954) (hb : b < 954) : Pc (f_X11_join x1 x2 x3 c_netOf) (fun r => MRG (rt (jM φ c_netOf)) (rt (jM φ r)) a b) := by
  unfold f_X11_join
  refine pc_bind (m_rootOf _ _ _ φ hφ hN a h1 h2 ha) (fun r1 q1 => pc_bind (m_rootOf _ _ _ φ hφ hN b h1 h3 hb) (fun r2 q2 => pc_if (fun e => pc_some ?_) (fun e => pc_vlet (pc_bad (fun bb => pc_vlet (pc_some ?_))))))
  · have : rt (jM φ c_netOf) a = rt (jM φ c_netOf) b := by rw [e] at q1; omega
    intro x y _ _
    omega
  · have ne : r1.toInt ≠ r2.toInt := fun z => e (Int32.toInt_inj.mp z)
    have la := rt_le (jM φ c_netOf) a
    have lb := rt_le (jM φ c_netOf) b
    have ia := rt_id (jM φ c_netOf) a
    have ib := rt_id (jM φ c_netOf) b
    by_cases lt : r1.toInt < r2.toInt
    · have emx : xmax r1 r2 = r2 := by unfold xmax; rw [if_pos (by rw [tI_lt]; exact lt)]
      have emn : xmin r1 r2 = r1 := by unfold xmin; rw [if_neg (by rw [tI_lt]; omega)]
      rw [emx, emn]
      have e2 : (x1 + r2).toNatClampNeg = 954 * φ + rt (jM φ c_netOf) b := by
        have : (x1 + r2).toInt = 954 * φ + r2.toInt := by ((try simp only [tI_lt, tI_le, tI_eq, tI_add, tI_sub, tI_mul, tI_nat, Int32.reduceToInt, Int.reduceToNat, fe_0, fe_1, fe_2, fe_3, fe_4, fe_5]) <;> (try simp (disch := omega) only [tI_bm]) <;> omega)
        rw [tI_nat]; omega
      rw [e2, jM_upd (x := rt (jM φ c_netOf) b) (m := rt (jM φ c_netOf) a) (by omega) q1]
      exact MRG_mM (M := rt (jM φ c_netOf) b) (m := rt (jM φ c_netOf) a) (.inr ⟨rfl, rfl⟩) (fun y _ => rt_un (jM φ c_netOf) _ _ ib ia (by omega) y)
    · have emx : xmax r1 r2 = r1 := by unfold xmax; rw [if_neg (by rw [tI_lt]; exact lt)]
      have emn : xmin r1 r2 = r2 := by unfold xmin; rw [if_pos (by rw [tI_lt]; omega)]
      rw [emx, emn]
      have e2 : (x1 + r1).toNatClampNeg = 954 * φ + rt (jM φ c_netOf) a := by
        have : (x1 + r1).toInt = 954 * φ + r1.toInt := by ((try simp only [tI_lt, tI_le, tI_eq, tI_add, tI_sub, tI_mul, tI_nat, Int32.reduceToInt, Int.reduceToNat, fe_0, fe_1, fe_2, fe_3, fe_4, fe_5]) <;> (try simp (disch := omega) only [tI_bm]) <;> omega)
        rw [tI_nat]; omega
      rw [e2, jM_upd (x := rt (jM φ c_netOf) a) (m := rt (jM φ c_netOf) b) (by omega) q2]
      exact MRG_mM (M := rt (jM φ c_netOf) a) (m := rt (jM φ c_netOf) b) (.inl ⟨rfl, rfl⟩) (fun y _ => rt_un (jM φ c_netOf) _ _ ia ib (by omega) y)
def itM (φ : Nat) (isTold : Nat → Int32) (e : Nat) : Int32 := isTold (954 * φ + e)
def WRM (φ : Nat) (S : List StT) (R : List QnT) (netOf isTold : Nat → Int32) : Prop := PRT (enS S) R (rt (jM φ netOf)) ∧ TLA (enS S) R (itM φ isTold)
set_option maxHeartbeats 400000 in
theorem WRM_step {φ : Nat} {S : List StT} {R : List QnT} {netOf n2 isTold t2 : Nat → Int32} (q : QnT) (a : Nat) (h : WRM φ S R netOf isTold) (ha : a < 954) (hq : enS S q.1 q.2.1 < 954) (hR : ∀ p ∈ R, enS S p.1 p.2.1 < 954) (m : MRG (rt (jM φ netOf)) (rt (jM φ n2)) a (enS S q.1 q.2.1)) (hc : (a = enS S q.1 q.2.1 ∧ ∀ p ∈ R, p.2.2 ≠ q.2.2) ∨ ∃ q1 ∈ R, q1.2.2 = q.2.2 ∧ a = enS S q1.1 q1.2.1) (ht : ∀ e, e < 954 → itM φ t2 e = if e = enS S q.1 q.2.1 then 1 else itM φ isTold e) : WRM φ S (q :: R) n2 t2 := by
  refine ⟨PRT_step q a h.1 ha hq hR m (fun p hp w => ?_) (fun T hT => ?_), TLA_step q (enS S q.1 q.2.1) h.2 (.inl rfl) (fun e he => ?_)⟩
  · rcases hc with ⟨-, z⟩ | ⟨q1, m1, m2, m3⟩
    · exact absurd w (z p hp)
    · rw [m3]
      exact h.1.1 p hp q1 m1 (w.trans m2.symm)
  · rcases hc with ⟨z, -⟩ | ⟨q1, m1, m2, m3⟩
    · rw [z]; exact ⟨fun t => t, fun t => t⟩
    · rw [m3]
      exact ⟨fun t => hT q1 (List.mem_cons_of_mem _ m1) q (List.mem_cons_self ..) m2 t, fun t => hT q (List.mem_cons_self ..) q1 (List.mem_cons_of_mem _ m1) m2.symm t⟩
  · rw [ht e he]
    by_cases z : e = enS S q.1 q.2.1
    · rw [if_pos z, if_pos (.inl z)]
    · rw [if_neg z, if_neg (fun w => w.elim z z)]
set_option maxHeartbeats 400000 in
theorem m_toldWire_12 (c_fresh : Int32) (c_text : Nat → Int32) (c_tKind : Nat → Int32) (c_tPlace : Nat → Int32) (c_tSize : Nat → Int32) (c_tValue : Nat → Int64) (c_many : Nat → Int32) (c_nameSize : Nat → Int32) (c_kinds : Nat → Int32) (c_names : Nat → Int32) (φ : Nat) (S : List StT) (one two bits : Nat → Int32) (hφ : φ ≤ 1) (hfr : c_fresh.toInt = φ) (hP : PMr φ c_nameSize c_names one two c_kinds bits S) (hG : GB c_nameSize c_kinds) (hc : ∀ s, s < 5 → cnt s S ≤ mst s) (hok : okS S = true) (hA : allPin S (pnsOf S)) (hE : ∀ v c, okPin S v c = true → enS S v c < 954) (L : Nat) (hL : L ≤ 4000) (hmn : ∀ s, s < 5 → (c_many (5 * φ + s)).toInt = cnt s S) (w : Nat) : ∀ (n : Nat) (x1 : Int32) (c_at : Int32) (c_fault : Int32) (c_faultAt : Int32) (c_netOf : Nat → Int32) (c_isTold : Nat → Int32) (f : Nat) (l rest : List TkT) (ps : List PinT) (R : List QnT), KM c_text L c_tKind c_tPlace c_tSize c_tValue c_at l → c_fault = 0 → pPins f l = some (ps, rest) → NI (954 * φ) c_netOf → WRM φ S R c_netOf c_isTold → (∀ p ∈ R, enS S p.1 p.2.1 < 954) → (∀ p ∈ ps, okPin S p.1 p.2 = true) → ((x1 = -1 ∧ ∀ p ∈ R, p.2.2 ≠ w) ∨ ∃ q1 ∈ R, q1.2.2 = w ∧ x1.toInt = enS S q1.1 q1.2.1) → Pc (f_X11_toldWire_12 c_fresh c_text c_tKind c_tPlace c_tSize c_tValue c_many c_nameSize c_kinds c_names n x1 c_at c_fault c_faultAt c_netOf c_isTold) (fun r => WRM φ S (pnsW w ps ++ R) r.2.2.2.1 r.2.2.2.2)
  | 0, x1, c_at, c_fault, c_faultAt, c_netOf, c_isTold, f, l, rest, ps, R, h, hf, hp, hN, hW, hR, hps, hx => pc_none
  | n + 1, x1, c_at, c_fault, c_faultAt, c_netOf, c_isTold, 0, l, rest, ps, R, h, hf, hp, hN, hW, hR, hps, hx => by cases hp
  | n + 1, x1, c_at, c_fault, c_faultAt, c_netOf, c_isTold, f + 1, l, rest, ps, R, h, hf, hp, hN, hW, hR, hps, hx => by
    unfold f_X11_toldWire_12
    unfold pPins at hp
    have hf1 : ¬ c_fault = 1 := by rw [hf]; decide
    rw [if_pos hf]
    refine pc_eq (e_isSign _ _ _ _ _ c_text L c_tPlace c_tSize l h (by decide)) ?_
    rw [show (59 : Int32).toInt.toNat = 59 from by decide]
    by_cases s : isSn l 59 = true
    · rw [if_pos s] at hp
      injection hp with hp; injection hp with p1 p2
      rw [i01_t hf1 s, if_neg (by decide)]
      subst p1 p2
      exact pc_some hW
    · rw [if_neg s] at hp
      rw [i01_f s, if_pos rfl]
      cases hq : pPin l with
      | none => rw [hq] at hp; cases hp
      | some y =>
        obtain ⟨p, l2⟩ := y
        rw [hq] at hp
        dsimp only at hp
        cases hq2 : pPins f l2 with
        | none => rw [hq2] at hp; cases hp
        | some y2 =>
          obtain ⟨ps2, r2⟩ := y2
          rw [hq2] at hp
          injection hp with hp; injection hp with p1 p2
          subst p1 p2
          have kp := hps p (List.mem_cons_self ..)
          have lp := hE p.1 p.2 kp
          refine pc_bind (pc_and (pc_ok (s_end _ _ _ _ _ _ _ _ _ _ _ _ _ φ S one two bits hφ hfr hP hG hc L l l2 p hL hf h hmn hq)) (m_end _ _ _ _ _ _ _ _ _ _ _ _ _ φ S one two bits hφ hfr hP hG hc hok L l l2 p hL hf h hmn hq)) (fun r hr => ?_)
          obtain ⟨hr, hv⟩ := hr
          rcases hr with ⟨e1, e2, e3⟩ | ⟨e1, e2, e3, e4, e5⟩
          · have := e3 hok
            rw [kp] at this; exact absurd this (by decide)
          · have rn : ¬ r.1 = -1 := fun q => by rw [q, l_m1] at e1; omega
            have rv := hv.resolve_left rn
            rw [if_neg rn]
            have b1 : (954 * c_fresh + r.1).toInt = 954 * φ + r.1.toInt := by ((try simp only [tI_lt, tI_le, tI_eq, tI_add, tI_sub, tI_mul, tI_nat, Int32.reduceToInt, Int.reduceToNat, fe_0, fe_1, fe_2, fe_3, fe_4, fe_5]) <;> (try simp (disch := omega) only [tI_bm]) <;> omega)
            have b2 : (954 * c_fresh + r.1).toNatClampNeg = 954 * φ + enS S p.1 p.2 := by rw [tI_nat, b1]; omega
            have b3 : (954 * c_fresh).toInt = 954 * φ := by ((try simp only [tI_lt, tI_le, tI_eq, tI_add, tI_sub, tI_mul, tI_nat, Int32.reduceToInt, Int.reduceToNat, fe_0, fe_1, fe_2, fe_3, fe_4, fe_5]) <;> (try simp (disch := omega) only [tI_bm]) <;> omega)
            refine pc_bad (fun _ => pc_vlet ?_)
            rw [b2]
            have tt : ∀ e, e < 954 → itM φ (upd c_isTold (954 * φ + enS S p.1 p.2) (vp_nar .boolean (1 : Int32))) e = if e = enS S p.1 p.2 then 1 else itM φ c_isTold e := fun e he => by
              unfold itM
              rw [upd_at]
              by_cases z : e = enS S p.1 p.2
              · rw [if_pos (by omega), if_pos z]; decide
              · rw [if_neg (by omega), if_neg z]
            have el : pnsW w (p :: ps2) ++ R = pnsW w ps2 ++ ((p.1, p.2, w) :: R) := by
              unfold pnsW
              rw [List.map_cons, List.reverse_cons, List.append_assoc]
              rfl
            have hR2 : ∀ q ∈ ((p.1, p.2, w) : QnT) :: R, enS S q.1 q.2.1 < 954 := fun q hq => by
              rcases List.mem_cons.mp hq with z | z
              · rw [z]; exact lp
              · exact hR q z
            have go : ∀ (y : Int32) (no2 : Nat → Int32), NI (954 * φ) no2 → WRM φ S ((p.1, p.2, w) :: R) no2 (upd c_isTold (954 * φ + enS S p.1 p.2) (vp_nar .boolean (1 : Int32))) → (∃ q1 ∈ ((p.1, p.2, w) : QnT) :: R, q1.2.2 = w ∧ y.toInt = enS S q1.1 q1.2.1) → Pc (f_X11_toldWire_12 c_fresh c_text c_tKind c_tPlace c_tSize c_tValue c_many c_nameSize c_kinds c_names n y r.2.1 r.2.2.1 r.2.2.2 no2 (upd c_isTold (954 * φ + enS S p.1 p.2) (vp_nar .boolean (1 : Int32)))) (fun r => WRM φ S (pnsW w (p :: ps2) ++ R) r.2.2.2.1 r.2.2.2.2) := by
              intro y no2 g1 g2 g3
              rw [el]
              exact m_toldWire_12 c_fresh c_text c_tKind c_tPlace c_tSize c_tValue c_many c_nameSize c_kinds c_names φ S one two bits hφ hfr hP hG hc hok hA hE L hL hmn w n _ _ _ _ _ _ f l2 r2 ps2 _ e3 e4 hq2 g1 g2 hR2 (fun q hq => hps q (List.mem_cons_of_mem _ hq)) (.inr g3)
            unfold f_X11_toldWire_79
            have q0 : ((p.1, p.2, w) : QnT) ∈ ((p.1, p.2, w) : QnT) :: R := List.mem_cons_self ..
            rcases hx with ⟨x0, xw⟩ | ⟨q1, m1, m2, m3⟩
            · rw [if_pos x0]
              exact go _ _ hN (WRM_step (p.1, p.2, w) (enS S p.1 p.2) hW lp lp hR (MRG_id _ _) (.inl ⟨rfl, xw⟩) tt) ⟨_, q0, rfl, rv⟩
            · have l1 := hR q1 m1
              rw [if_neg (fun q => by rw [q, l_m1] at m3; omega)]
              refine pc_bind (pc_and (pc_ok (s_join _ _ _ _ φ hφ hN b3 (by omega) ⟨e1, e2⟩)) (m_join _ _ _ _ φ hφ hN (enS S q1.1 q1.2.1) (enS S p.1 p.2) b3 m3 rv l1 lp)) (fun r5 h5 => ?_)
              exact go _ _ h5.1.1 (WRM_step (p.1, p.2, w) (enS S q1.1 q1.2.1) hW l1 lp hR h5.2 (.inr ⟨q1, m1, m2, rfl⟩) tt) ⟨q1, List.mem_cons_of_mem _ m1, m2, m3⟩
set_option maxHeartbeats 400000 in
theorem m_nw_113 (k72 : Int32 → Int32 → Int32 → (Nat → Int32) → (Nat → Int32) → (Nat → Int32) → Option (Int32 × Int32 × Int32 × (Nat → Int32) × (Nat → Int32) × (Nat → Int32))) (c_fresh : Int32) (c_text : Nat → Int32) (c_tKind : Nat → Int32) (c_tPlace : Nat → Int32) (c_tSize : Nat → Int32) (c_tValue : Nat → Int64) (c_many : Nat → Int32) (c_nameSize : Nat → Int32) (c_kinds : Nat → Int32) (c_names : Nat → Int32) (L : Nat) (rest : List TkT) (hr : isSn rest 59 = true) {Q} : ∀ (n : Nat) (c_at : Int32) (c_fault : Int32) (c_faultAt : Int32) (c_netOf : Nat → Int32) (c_isTold : Nat → Int32) (c_soFar : Nat → Int32) (k : Nat) (l : List TkT), SK k l rest → KM c_text L c_tKind c_tPlace c_tSize c_tValue c_at l → c_fault = 0 → (∀ ca : Int32, KM c_text L c_tKind c_tPlace c_tSize c_tValue ca rest.tail → Pc (k72 ca c_fault c_faultAt c_netOf c_isTold c_soFar) Q) → Pc (f_X11_namesAndWires_113 k72 c_fresh c_text c_tKind c_tPlace c_tSize c_tValue c_many c_nameSize c_kinds c_names n c_at c_fault c_faultAt c_netOf c_isTold c_soFar) Q
  | 0, c_at, c_fault, c_faultAt, c_netOf, c_isTold, c_soFar, k, l, h1, h, hf, hk => pc_none
  | n + 1, c_at, c_fault, c_faultAt, c_netOf, c_isTold, c_soFar, k, l, h1, h, hf, hk => by
    unfold f_X11_namesAndWires_113
    have hf1 : ¬ c_fault = 1 := by rw [hf]; decide
    rw [if_pos hf]
    refine pc_eq (e_isSign _ _ _ _ _ c_text L c_tPlace c_tSize l h (by decide)) ?_
    rw [show (59 : Int32).toInt.toNat = 59 from by decide]
    cases k with
    | zero =>
      have e : l = rest := h1
      rw [e] at h
      rw [e, i01_t hf1 hr, if_neg (by decide)]
      unfold f_X11_namesAndWires_142
      exact pc_vlet (hk _ (KM_next h (.inr (.inr (hd3 hr)))).1)
    | succ k =>
      obtain ⟨g1, g2⟩ := h1
      rw [i01_f (SK_sn g1 59), if_pos rfl]
      have n1 := (KM_next h (by omega)).1
      exact pc_vlet (m_nw_113 k72 c_fresh c_text c_tKind c_tPlace c_tSize c_tValue c_many c_nameSize c_kinds c_names L rest hr n _ _ _ _ _ _ k l.tail g2 n1 hf hk)
set_option maxHeartbeats 400000 in
theorem pns_in {S1 : List StT} {q : QnT} : ∀ A : List StT, q ∈ pnsOf S1 → q ∈ pnsOf (A ++ S1)
  | [], h => h
  | b :: A, h => by
    show q ∈ pnsW (cnt 5 (A ++ S1) + 1) b.2.2.2.2.2.2 ++ pnsOf (A ++ S1)
    exact List.mem_append.mpr (.inr (pns_in A h))
set_option maxHeartbeats 400000 in
theorem m_nw_72 (c_fresh : Int32) (c_text : Nat → Int32) (c_tKind : Nat → Int32) (c_tPlace : Nat → Int32) (c_tSize : Nat → Int32) (c_tValue : Nat → Int64) (c_many : Nat → Int32) (c_nameSize : Nat → Int32) (c_kinds : Nat → Int32) (c_names : Nat → Int32) (φ : Nat) (S : List StT) (one two bits : Nat → Int32) (hφ : φ ≤ 1) (hfr : c_fresh.toInt = φ) (hP : PMr φ c_nameSize c_names one two c_kinds bits S) (hG : GB c_nameSize c_kinds) (hc : ∀ s, s < 5 → cnt s S ≤ mst s) (hok : okS S = true) (hA : allPin S (pnsOf S)) (hE : ∀ v c, okPin S v c = true → enS S v c < 954) (L : Nat) (hL : L ≤ 4000) (hmn : ∀ s, s < 5 → (c_many (5 * φ + s)).toInt = cnt s S) : ∀ (n : Nat) (c_at : Int32) (c_fault : Int32) (c_faultAt : Int32) (c_netOf : Nat → Int32) (c_isTold : Nat → Int32) (c_soFar : Nat → Int32) (f : Nat) (l : List TkT) (ss S1 : List StT), KM c_text L c_tKind c_tPlace c_tSize c_tValue c_at l → c_fault = 0 → pText f l = some ss → S = ss.reverse ++ S1 → (∀ t, t < 5 → (c_soFar t).toInt = cnt t S1) → NI (954 * φ) c_netOf → WRM φ S (pnsOf S1) c_netOf c_isTold → (∀ q ∈ pnsOf S1, q.2.2 ≤ cnt 5 S1) → Pc (f_X11_namesAndWires_72 c_fresh c_text c_tKind c_tPlace c_tSize c_tValue c_many c_nameSize c_kinds c_names n c_at c_fault c_faultAt c_netOf c_isTold c_soFar) (fun r => WRM φ S (pnsOf S) r.2.2.2.1 r.2.2.2.2.1)
  | 0, c_at, c_fault, c_faultAt, c_netOf, c_isTold, c_soFar, f, l, ss, S1, h, hf, hp, hS, hsf, hN, hW, hw9 => pc_none
  | n + 1, c_at, c_fault, c_faultAt, c_netOf, c_isTold, c_soFar, 0, l, ss, S1, h, hf, hp, hS, hsf, hN, hW, hw9 => by cases hp
  | n + 1, c_at, c_fault, c_faultAt, c_netOf, c_isTold, c_soFar, f + 1, l, ss, S1, h, hf, hp, hS, hsf, hN, hW, hw9 => by
    unfold f_X11_namesAndWires_72
    unfold pText at hp
    obtain ⟨b2, b3, b4, b5, b6⟩ := KM_hd h
    have hf1 : ¬ c_fault = 1 := by rw [hf]; decide
    rw [if_pos hf]
    refine pc_bad (fun _ => ?_)
    rw [tI_nat]
    have k0 : c_tKind c_at.toInt.toNat = 0 ↔ (hd l).1 = 0 := by
      rw [tI_eq, b4.1, l_0]; omega
    by_cases e : (hd l).1 = 0
    · rw [if_pos (k0.mpr e)]
      rw [if_pos e] at hp
      injection hp with hp
      subst hp
      have hS' : S = S1 := hS
      rw [← hS'] at hW
      exact pc_some hW
    rw [if_neg (fun q => e (k0.mp q))]
    rw [if_neg e] at hp
    cases hq : pBody l with
    | none =>
      unfold pStmt at hp
      rw [hq] at hp; cases hp
    | some y =>
      obtain ⟨st, rest⟩ := y
      unfold pStmt at hp
      rw [hq] at hp
      dsimp only at hp
      by_cases sn : isSn rest 59 = true
      · rw [if_pos sn] at hp
        dsimp only at hp
        cases hq2 : pText f rest.tail with
        | none => rw [hq2] at hp; cases hp
        | some ss2 =>
          rw [hq2] at hp
          injection hp with hp
          subst hp
          have hS2 : S = ss2.reverse ++ (st :: S1) := by
            rw [hS, List.reverse_cons, List.append_assoc]; rfl
          have hok1 : okS (st :: S1) = true := okS_app ss2.reverse _ (hS2 ▸ hok)
          have on : ∀ (ca cfa : Int32) (no2 it2 so2 : Nat → Int32), KM c_text L c_tKind c_tPlace c_tSize c_tValue ca rest.tail → (∀ t, t < 5 → (so2 t).toInt = cnt t (st :: S1)) → NI (954 * φ) no2 → WRM φ S (pnsOf (st :: S1)) no2 it2 → (∀ q ∈ pnsOf (st :: S1), q.2.2 ≤ cnt 5 (st :: S1)) → Pc (f_X11_namesAndWires_72 c_fresh c_text c_tKind c_tPlace c_tSize c_tValue c_many c_nameSize c_kinds c_names n ca 0 cfa no2 it2 so2) (fun r => WRM φ S (pnsOf S) r.2.2.2.1 r.2.2.2.2.1) := by
            intro ca cfa no2 it2 so2 g1 g2 g3 g4 g5
            exact m_nw_72 c_fresh c_text c_tKind c_tPlace c_tSize c_tValue c_many c_nameSize c_kinds c_names φ S one two bits hφ hfr hP hG hc hok hA hE L hL hmn n ca 0 cfa no2 it2 so2 f rest.tail ss2 (st :: S1) g1 rfl hq2 hS2 g2 g3 g4 g5
          refine pc_bind (pc_ok (s_sortHere _ _ _ _ c_text L c_tPlace c_tSize l h hf1)) (fun r2 h2 => ?_)
          cases hs : srt l with
          | none =>
            rw [hs] at h2
            have hw := pBody_wire hs
            rw [if_pos h2]
            by_cases w : isWd l 2003399269 = true
            · rw [if_pos w, hq] at hw
              cases hp2 : pPins 4002 l.tail with
              | none => rw [hp2] at hw; cases hw
              | some y2 =>
                obtain ⟨ps, r9⟩ := y2
                rw [hp2] at hw
                dsimp only at hw
                by_cases two' : 2 ≤ ps.length
                · rw [if_pos two'] at hw
                  injection hw with hw; injection hw with w1 w2
                  subst w1 w2
                  have hps : ∀ p ∈ ps, okPin S p.1 p.2 = true := fun p m1 => by
                    obtain ⟨q9, n1, n2, n3⟩ := pns_mem p (5, 0, 0, 0, 0, 0, ps) m1 S1 ss2.reverse
                    rw [← hS2] at n1
                    have := hA q9 n1
                    rw [n2, n3] at this
                    exact this
                  have n1 := (KM_next h (.inl (hd1 w))).1
                  have tw : Pc (f_X11_toldWire c_at c_fault c_faultAt c_fresh c_text c_tKind c_tPlace c_tSize c_tValue c_many c_nameSize c_kinds c_names c_netOf c_isTold) (fun r => WRM φ S (pnsW (cnt 5 S1 + 1) ps ++ pnsOf S1) r.2.2.2.1 r.2.2.2.2) := by
                    unfold f_X11_toldWire
                    exact pc_vlet (m_toldWire_12 c_fresh c_text c_tKind c_tPlace c_tSize c_tValue c_many c_nameSize c_kinds c_names φ S one two bits hφ hfr hP hG hc hok hA hE L hL hmn (cnt 5 S1 + 1) FU _ _ _ _ _ _ 4002 l.tail rest ps (pnsOf S1) n1 hf hp2 hN hW (fun p hp => hE _ _ (hA p (by rw [hS2]; exact pns_in ss2.reverse (pns_in (A := [_]) hp)))) hps (.inl ⟨rfl, fun p hp z => by have := hw9 p hp; omega⟩))
                  refine pc_bind (pc_and (pc_ok (s_toldWire _ _ _ _ _ _ _ _ _ _ _ _ _ _ _ φ S one two bits hφ hfr hP hG hc L hL hmn l rest ps h (hd1 w) hf hp2 hN)) tw) (fun r3 h3 => ?_)
                  obtain ⟨⟨z1, z2, z3⟩, z4⟩ := h3
                  rcases z1 with ⟨v1, v2⟩ | ⟨v1, v2, v3, v4⟩
                  · obtain ⟨p, m1, m2⟩ := v2 hok
                    rw [hps p m1] at m2; exact absurd m2 (by decide)
                  · rw [v1]
                    refine m_nw_113 _ c_fresh c_text c_tKind c_tPlace c_tSize c_tValue c_many c_nameSize c_kinds c_names L rest v3 FU _ _ _ _ _ _ 0 rest rfl v2 rfl (fun ca hca => on _ _ _ _ _ hca (fun t ht => ?_) z2 z4 (fun q hq => ?_))
                    · rw [hsf t ht]
                      show ((cnt t S1 : Nat) : Int) = ((cnt t S1 + (if 5 = t then 1 else 0) : Nat) : Int)
                      rw [if_neg (by omega)]; rfl
                    · show q.2.2 ≤ cnt 5 S1 + (if 5 = 5 then 1 else 0)
                      rw [if_pos rfl]
                      rcases List.mem_append.mp (show q ∈ pnsW (cnt 5 S1 + 1) ps ++ pnsOf S1 from hq) with z | z
                      · rw [(pnsW_w z).1]; exact Nat.le_refl _
                      · have := hw9 q z; omega
                · rw [if_neg two'] at hw; cases hw
            · rw [if_neg w, hq] at hw; cases hw
          | some s =>
            rw [hs] at h2
            obtain ⟨y1, y2, y3, y4⟩ := h2
            rw [hq] at y4
            obtain ⟨p1, p2, p3, p4, k, p5, p6⟩ := pPart_st y4.symm
            rw [if_neg (fun q => by rw [q, l_m1] at y1; omega)]
            obtain ⟨n1, n2, n3⟩ := KM_next h (.inl y3)
            obtain ⟨t1, t2⟩ := KM_TkN n1 ((isNm_t _).mp p1).1
            have bn := KM_hd n1
            have hS1 : ∀ t, cnt t S1 ≤ cnt t S := fun t => by
              rw [hS]
              clear hS
              generalize (st :: ss2).reverse = A
              induction A with
              | nil => exact Nat.le_refl _
              | cons c A ih => exact Nat.le_trans ih (Nat.le_add_right _ _)
            refine pc_bind (pc_ok (s_toldPart (x1 := r2) (c_at := c_at) (c_fault := c_fault) (c_faultAt := c_faultAt) (c_fresh := c_fresh) (c_text := c_text) (c_tPlace := c_tPlace) (c_tSize := c_tSize) (c_nameSize := c_nameSize) (c_names := c_names) (c_soFar := c_soFar) φ s (fun t => cnt t S1) (fun t i => ∃ a, AT t i a S ∧ tnm a = (hd l.tail).2.1) hφ hfr y2 y1 ⟨b2, by omega⟩ (fun t ht => by have := hc t ht; have := mst_le t; have := hS1 t; omega) hsf (fun t i y ht hi hy => s_alikeAt (x1 := y) (x2 := c_at + 1) (c_text := c_text) (c_tPlace := c_tPlace) (c_tSize := c_tSize) (c_nameSize := c_nameSize) (c_names := c_names) φ L (hd l.tail).2.1 t i S one two c_kinds bits hφ hL ht (by have := hS1 t; omega) (hc t ht) hP hy ⟨bn.1, bn.2.1⟩ t1))) (fun r4 h4 => ?_)
            obtain ⟨q1, q2, q3⟩ := h4
            have iff9 := inN_iff (hd l.tail).2.1 (st :: ss2).reverse S1
            rw [← hS] at iff9
            have q3' : ∀ t, t < 5 → (r4.2.2.2 t).toInt = cnt t (st :: S1) := fun t ht => by
              rw [q3 t ht]
              show _ = ((cnt t S1 + (if st.1 = t then 1 else 0) : Nat) : Int)
              by_cases z : t = s
              · rw [if_pos z, if_pos (by omega), z]
              · rw [if_neg z, if_neg (by omega)]; rfl
            rcases q2 with ⟨v1, v2⟩ | ⟨v1, v2⟩
            · exfalso
              have dup := iff9.mp v1
              have := hok1
              have h' : (okS S1 && (decide (5 ≤ st.1) || (!inN (tnm st) S1 && decide (cnt st.1 S1 < mst st.1)))) = true := this
              rw [p3, dup, Bool.and_eq_true, Bool.or_eq_true, decide_eq_true_eq] at h'
              rcases h'.2 with z | z
              · omega
              · exact absurd (show false = true from z) (by decide)
            · rw [v2, hf, q1]
              have pe : pnsOf (st :: S1) = pnsOf S1 := by
                show pnsW (cnt 5 S1 + 1) st.2.2.2.2.2.2 ++ pnsOf S1 = pnsOf S1
                rw [p4]; rfl
              refine m_nw_113 _ c_fresh c_text c_tKind c_tPlace c_tSize c_tValue c_many c_nameSize c_kinds c_names L rest sn FU _ _ _ _ _ _ k l.tail p6 n1 rfl (fun ca hca => on _ _ _ _ _ hca q3' hN (by rw [pe]; exact hW) (fun q hq => ?_))
              rw [pe] at hq
              have := hw9 q hq
              exact Nat.le_trans this (Nat.le_add_right _ _)
      · rw [if_neg sn] at hp; cases hp
set_option maxHeartbeats 400000 in
theorem m_nw_27 (c_fresh : Int32) (c_text : Nat → Int32) (c_tKind : Nat → Int32) (c_tPlace : Nat → Int32) (c_tSize : Nat → Int32) (c_tValue : Nat → Int64) (c_many : Nat → Int32) (c_nameSize : Nat → Int32) (c_kinds : Nat → Int32) (c_names : Nat → Int32) (φ : Nat) (hφ : φ ≤ 1) (hfr : c_fresh.toInt = φ) {Q} (a f : Int32) (so : Nat → Int32) (hk : ∀ (g : Int32) (no2 it2 : Nat → Int32), (∀ e : Nat, e < 954 → (no2 (954 * φ + e)).toInt = e ∧ it2 (954 * φ + e) = 0) → Pc (f_X11_namesAndWires_72 c_fresh c_text c_tKind c_tPlace c_tSize c_tValue c_many c_nameSize c_kinds c_names FU a f g no2 it2 so) Q) : ∀ (n : Nat) (x1 : Int32) (c_at : Int32) (c_fault : Int32) (c_faultAt : Int32) (c_netOf : Nat → Int32) (c_isTold : Nat → Int32) (c_soFar : Nat → Int32), c_at = a → c_fault = f → c_soFar = so → 0 ≤ x1.toInt → x1.toInt ≤ 954 → (∀ e : Nat, (e : Int) < x1.toInt → (c_netOf (954 * φ + e)).toInt = e ∧ c_isTold (954 * φ + e) = 0) → Pc (f_X11_namesAndWires_27 c_fresh c_text c_tKind c_tPlace c_tSize c_tValue c_many c_nameSize c_kinds c_names n x1 c_at c_fault c_faultAt c_netOf c_isTold c_soFar) Q
  | 0, x1, c_at, c_fault, c_faultAt, c_netOf, c_isTold, c_soFar, e1, e2, e4, h1, h2, h4 => pc_none
  | n + 1, x1, c_at, c_fault, c_faultAt, c_netOf, c_isTold, c_soFar, e1, e2, e4, h1, h2, h4 => by
    unfold f_X11_namesAndWires_27
    subst e1 e2 e4
    refine pc_if (fun q => ?_) (fun q => ?_)
    · rw [tI_le, l_954] at q
      exact hk _ _ _ (fun e he => h4 e (by omega))
    · rw [tI_le, l_954] at q
      have b1 : (954 * c_fresh + x1).toInt = 954 * φ + x1.toInt := by ((try simp only [tI_lt, tI_le, tI_eq, tI_add, tI_sub, tI_mul, tI_nat, Int32.reduceToInt, Int.reduceToNat, fe_0, fe_1, fe_2, fe_3, fe_4, fe_5]) <;> (try simp (disch := omega) only [tI_bm]) <;> omega)
      have b2 : (954 * c_fresh + x1).toNatClampNeg = 954 * φ + x1.toInt.toNat := by rw [tI_nat, b1]; omega
      have b3 : (x1 + 1).toInt = x1.toInt + 1 := by ((try simp only [tI_lt, tI_le, tI_eq, tI_add, tI_sub, tI_mul, tI_nat, Int32.reduceToInt, Int.reduceToNat, fe_0, fe_1, fe_2, fe_3, fe_4, fe_5]) <;> (try simp (disch := omega) only [tI_bm]) <;> omega)
      refine pc_bad (fun _ => pc_vlet (pc_bad (fun _ => pc_vlet (pc_vlet ?_))))
      rw [b2]
      refine m_nw_27 c_fresh c_text c_tKind c_tPlace c_tSize c_tValue c_many c_nameSize c_kinds c_names φ hφ hfr c_at c_fault c_soFar hk n _ _ _ _ _ _ _ rfl rfl rfl (by omega) (by omega) (fun e he => ?_)
      rw [upd_at, upd_at]
      by_cases z : e = x1.toInt.toNat
      · rw [if_pos (by omega), if_pos (by omega)]
        exact ⟨by omega, nar0⟩
      · rw [if_neg (by omega), if_neg (by omega)]
        exact h4 e (by omega)
set_option maxHeartbeats 400000 in
theorem m_nw_7 (c_fresh : Int32) (c_text : Nat → Int32) (c_tKind : Nat → Int32) (c_tPlace : Nat → Int32) (c_tSize : Nat → Int32) (c_tValue : Nat → Int64) (c_many : Nat → Int32) (c_nameSize : Nat → Int32) (c_kinds : Nat → Int32) (c_names : Nat → Int32) {Q} (a f : Int32) (hk : ∀ (g : Int32) (n0 t0 so2 : Nat → Int32), (∀ s : Nat, s < 5 → so2 s = 0) → Pc (f_X11_namesAndWires_27 c_fresh c_text c_tKind c_tPlace c_tSize c_tValue c_many c_nameSize c_kinds c_names FU (0 : Int32) a f g n0 t0 so2) Q) : ∀ (n : Nat) (x1 : Int32) (c_at : Int32) (c_fault : Int32) (c_faultAt : Int32) (c_netOf : Nat → Int32) (c_isTold : Nat → Int32) (c_soFar : Nat → Int32), c_at = a → c_fault = f → 0 ≤ x1.toInt → x1.toInt ≤ 5 → (∀ s : Nat, (s : Int) < x1.toInt → c_soFar s = 0) → Pc (f_X11_namesAndWires_7 c_fresh c_text c_tKind c_tPlace c_tSize c_tValue c_many c_nameSize c_kinds c_names n x1 c_at c_fault c_faultAt c_netOf c_isTold c_soFar) Q
  | 0, x1, c_at, c_fault, c_faultAt, c_netOf, c_isTold, c_soFar, e1, e2, h1, h2, h4 => pc_none
  | n + 1, x1, c_at, c_fault, c_faultAt, c_netOf, c_isTold, c_soFar, e1, e2, h1, h2, h4 => by
    unfold f_X11_namesAndWires_7
    subst e1 e2
    refine pc_if (fun q => ?_) (fun q => ?_)
    · rw [tI_le, l_5] at q
      exact hk _ _ _ _ (fun s hs => h4 s (by omega))
    · rw [tI_le, l_5] at q
      have b3 : (x1 + 1).toInt = x1.toInt + 1 := by ((try simp only [tI_lt, tI_le, tI_eq, tI_add, tI_sub, tI_mul, tI_nat, Int32.reduceToInt, Int.reduceToNat, fe_0, fe_1, fe_2, fe_3, fe_4, fe_5]) <;> (try simp (disch := omega) only [tI_bm]) <;> omega)
      refine pc_bad (fun _ => pc_vlet (pc_vlet ?_))
      refine m_nw_7 c_fresh c_text c_tKind c_tPlace c_tSize c_tValue c_many c_nameSize c_kinds c_names c_at c_fault hk n _ _ _ _ _ _ _ rfl rfl (by omega) (by omega) (fun s hs => ?_)
      rw [upd_at, tI_nat]
      by_cases z : s = x1.toInt.toNat
      · rw [if_pos z]
      · rw [if_neg z]; exact h4 s (by omega)
set_option maxHeartbeats 400000 in
theorem m_namesAndWires (c_at : Int32) (c_fault : Int32) (c_faultAt : Int32) (c_fresh : Int32) (c_text : Nat → Int32) (c_tKind : Nat → Int32) (c_tPlace : Nat → Int32) (c_tSize : Nat → Int32) (c_tValue : Nat → Int64) (c_many : Nat → Int32) (c_nameSize : Nat → Int32) (c_kinds : Nat → Int32) (c_names : Nat → Int32) (c_netOf : Nat → Int32) (c_isTold : Nat → Int32) (c_soFar : Nat → Int32) (φ : Nat) (S : List StT) (one two bits : Nat → Int32) (hφ : φ ≤ 1) (hfr : c_fresh.toInt = φ) (hP : PMr φ c_nameSize c_names one two c_kinds bits S) (hG : GB c_nameSize c_kinds) (hc : ∀ s, s < 5 → cnt s S ≤ mst s) (hok : okS S = true) (hA : allPin S (pnsOf S)) (hE : ∀ v c, okPin S v c = true → enS S v c < 954) (L : Nat) (hL : L ≤ 4000) (hmn : ∀ s, s < 5 → (c_many (5 * φ + s)).toInt = cnt s S) (l : List TkT) (ss : List StT) (h : KM c_text L c_tKind c_tPlace c_tSize c_tValue 0 l) (hf : c_fault = 0) (hp : pText 4002 l = some ss) (hS : S = ss.reverse) : Pc (f_X11_namesAndWires c_at c_fault c_faultAt c_fresh c_text c_tKind c_tPlace c_tSize c_tValue c_many c_nameSize c_kinds c_names c_netOf c_isTold c_soFar) (fun r => WRM φ S (pnsOf S) r.2.2.2.1 r.2.2.2.2.1) := by
  unfold f_X11_namesAndWires
  refine m_nw_7 c_fresh c_text c_tKind c_tPlace c_tSize c_tValue c_many c_nameSize c_kinds c_names 0 c_fault (fun g n0 t0 so2 hso => ?_) FU 0 0 c_fault c_faultAt c_netOf c_isTold c_soFar rfl rfl (by decide) (by decide) (fun s hs => by rw [l_0] at hs; omega)
  refine m_nw_27 c_fresh c_text c_tKind c_tPlace c_tSize c_tValue c_many c_nameSize c_kinds c_names φ hφ hfr 0 c_fault so2 (fun g2 no2 it2 hno => ?_) FU 0 0 c_fault g n0 t0 so2 rfl rfl rfl (by decide) (by decide) (fun s hs => by rw [l_0] at hs; omega)
  refine m_nw_72 c_fresh c_text c_tKind c_tPlace c_tSize c_tValue c_many c_nameSize c_kinds c_names φ S one two bits hφ hfr hP hG hc hok hA hE L hL hmn FU 0 c_fault g2 no2 it2 so2 4002 l ss [] h hf hp (by rw [hS, List.append_nil]) (fun t ht => by rw [hso t ht]; rfl) (fun e he => by have := (hno e he).1; omega) ⟨PRT_0 _ _ (fun e f he hf w => ?_), fun e he => .inr ⟨(hno e he).2, fun q => by obtain ⟨p, m, -⟩ := q; exact absurd m (List.not_mem_nil)⟩⟩ (fun q hq => absurd hq (List.not_mem_nil))
  have j0 : ∀ e, e < 954 → rt (jM φ no2) e = e := fun e he => rt_n (by rw [jM_at he, (hno e he).1]; omega)
  rw [j0 e he, j0 f hf] at w; exact w
/-! roots put in the place of the ways to them -/
set_option maxHeartbeats 400000 in
theorem rt_short (j j2 : Nat → Nat) (h : ∀ e, j2 e = j e ∨ j2 e = rt j e) : ∀ x, rt j2 x = rt j x := by
  intro x
  induction x using Nat.strongRecOn with
  | ind x ih =>
    rcases h x with e | e
    · by_cases s : j x < x
      · rw [rt_s (j := j2) (by rw [e]; exact s), e, ih _ s, rt_s s]
      · rw [rt_n (j := j2) (by rw [e]; exact s), rt_n s]
    · have le := rt_le j x
      by_cases s : rt j x < x
      · rw [rt_s (j := j2) (by rw [e]; exact s), e, ih _ s, rt_id]
      · rw [rt_n (j := j2) (by rw [e]; exact s)]; omega
def NETM (φ : Nat) (S : List StT) (netOf isTold : Nat → Int32) : Prop := PRT (enS S) (pnsOf S) (nuM φ netOf) ∧ TLA (enS S) (pnsOf S) (itM φ isTold) ∧ ∀ e, e < 954 → nuM φ netOf (nuM φ netOf e) = nuM φ netOf e
set_option maxHeartbeats 400000 in
theorem m_reads_116 (c_size : Int32) (c_text : Nat → Int32) : ∀ (n : Nat) (x1 : Int32) (c_tokens : Int32) (c_at : Int32) (c_fault : Int32) (c_faultAt : Int32) (c_side : Int32) (c_fresh : Int32) (c_kept : Int32) (c_raceTick : Int32) (c_tKind : Nat → Int32) (c_tPlace : Nat → Int32) (c_tSize : Nat → Int32) (c_tValue : Nat → Int64) (c_many : Nat → Int32) (c_nameSize : Nat → Int32) (c_one : Nat → Int32) (c_two : Nat → Int32) (c_kinds : Nat → Int32) (c_kindBits : Nat → Int32) (c_names : Nat → Int32) (c_netOf : Nat → Int32) (c_isTold : Nat → Int32) (c_soFar : Nat → Int32) (c_state : Nat → Int32) (c_stuck : Nat → Int32) (c_dusty : Nat → Int32), Pc (f_X11_reads_116 c_size c_text n x1 c_tokens c_at c_fault c_faultAt c_side c_fresh c_kept c_raceTick c_tKind c_tPlace c_tSize c_tValue c_many c_nameSize c_one c_two c_kinds c_kindBits c_names c_netOf c_isTold c_soFar c_state c_stuck c_dusty) (fun r => r.2.2.2.2.2.2.2.2.2.2.2.2.2.2.2.2.2.2.2.2.1 = c_netOf ∧ r.2.2.2.2.2.2.2.2.2.2.2.2.2.2.2.2.2.2.2.2.2.1 = c_isTold)
  | 0, x1, c_tokens, c_at, c_fault, c_faultAt, c_side, c_fresh, c_kept, c_raceTick, c_tKind, c_tPlace, c_tSize, c_tValue, c_many, c_nameSize, c_one, c_two, c_kinds, c_kindBits, c_names, c_netOf, c_isTold, c_soFar, c_state, c_stuck, c_dusty => pc_none
  | n + 1, x1, c_tokens, c_at, c_fault, c_faultAt, c_side, c_fresh, c_kept, c_raceTick, c_tKind, c_tPlace, c_tSize, c_tValue, c_many, c_nameSize, c_one, c_two, c_kinds, c_kindBits, c_names, c_netOf, c_isTold, c_soFar, c_state, c_stuck, c_dusty => by
    unfold f_X11_reads_116
    refine pc_if (fun q => pc_some ⟨rfl, rfl⟩) (fun q => pc_bad (fun _ => pc_vlet (pc_bad (fun _ => pc_vlet (pc_vlet ?_)))))
    exact m_reads_116 c_size c_text n _ _ _ _ _ _ _ _ _ _ _ _ _ _ _ _ _ _ _ _ _ _ _ _ _ _
set_option maxHeartbeats 400000 in
theorem m_reads_94 (c_size : Int32) (c_text : Nat → Int32) : ∀ (n : Nat) (x1 : Int32) (c_tokens : Int32) (c_at : Int32) (c_fault : Int32) (c_faultAt : Int32) (c_side : Int32) (c_fresh : Int32) (c_kept : Int32) (c_raceTick : Int32) (c_tKind : Nat → Int32) (c_tPlace : Nat → Int32) (c_tSize : Nat → Int32) (c_tValue : Nat → Int64) (c_many : Nat → Int32) (c_nameSize : Nat → Int32) (c_one : Nat → Int32) (c_two : Nat → Int32) (c_kinds : Nat → Int32) (c_kindBits : Nat → Int32) (c_names : Nat → Int32) (c_netOf : Nat → Int32) (c_isTold : Nat → Int32) (c_soFar : Nat → Int32) (c_state : Nat → Int32) (c_stuck : Nat → Int32) (c_dusty : Nat → Int32), Pc (f_X11_reads_94 c_size c_text n x1 c_tokens c_at c_fault c_faultAt c_side c_fresh c_kept c_raceTick c_tKind c_tPlace c_tSize c_tValue c_many c_nameSize c_one c_two c_kinds c_kindBits c_names c_netOf c_isTold c_soFar c_state c_stuck c_dusty) (fun r => r.2.2.2.2.2.2.2.2.2.2.2.2.2.2.2.2.2.2.2.2.1 = c_netOf ∧ r.2.2.2.2.2.2.2.2.2.2.2.2.2.2.2.2.2.2.2.2.2.1 = c_isTold)
  | 0, x1, c_tokens, c_at, c_fault, c_faultAt, c_side, c_fresh, c_kept, c_raceTick, c_tKind, c_tPlace, c_tSize, c_tValue, c_many, c_nameSize, c_one, c_two, c_kinds, c_kindBits, c_names, c_netOf, c_isTold, c_soFar, c_state, c_stuck, c_dusty => pc_none
  | n + 1, x1, c_tokens, c_at, c_fault, c_faultAt, c_side, c_fresh, c_kept, c_raceTick, c_tKind, c_tPlace, c_tSize, c_tValue, c_many, c_nameSize, c_one, c_two, c_kinds, c_kindBits, c_names, c_netOf, c_isTold, c_soFar, c_state, c_stuck, c_dusty => by
    unfold f_X11_reads_94
    refine pc_if (fun q => m_reads_116 c_size c_text FU _ _ _ _ _ _ _ _ _ _ _ _ _ _ _ _ _ _ _ _ _ _ _ _ _ _) (fun q => pc_bad (fun _ => pc_vlet (pc_vlet ?_)))
    exact m_reads_94 c_size c_text n _ _ _ _ _ _ _ _ _ _ _ _ _ _ _ _ _ _ _ _ _ _ _ _ _ _
set_option maxHeartbeats 400000 in
theorem m_reads_43 (c_size : Int32) (c_text : Nat → Int32) (φ : Nat) (hφ : φ ≤ 1) (n0 t0 : Nat → Int32) (hn0 : NI (954 * φ) n0) : ∀ (n : Nat) (x1 : Int32) (c_tokens : Int32) (c_at : Int32) (c_fault : Int32) (c_faultAt : Int32) (c_side : Int32) (c_fresh : Int32) (c_kept : Int32) (c_raceTick : Int32) (c_tKind : Nat → Int32) (c_tPlace : Nat → Int32) (c_tSize : Nat → Int32) (c_tValue : Nat → Int64) (c_many : Nat → Int32) (c_nameSize : Nat → Int32) (c_one : Nat → Int32) (c_two : Nat → Int32) (c_kinds : Nat → Int32) (c_kindBits : Nat → Int32) (c_names : Nat → Int32) (c_netOf : Nat → Int32) (c_isTold : Nat → Int32) (c_soFar : Nat → Int32) (c_state : Nat → Int32) (c_stuck : Nat → Int32) (c_dusty : Nat → Int32) (k : Nat), c_fresh.toInt = φ → x1.toInt = k → k ≤ 954 → c_isTold = t0 → (∀ e, e < 954 → jM φ c_netOf e = if e < k then rt (jM φ n0) e else jM φ n0 e) → NI (954 * φ) c_netOf → Pc (f_X11_reads_43 c_size c_text n x1 c_tokens c_at c_fault c_faultAt c_side c_fresh c_kept c_raceTick c_tKind c_tPlace c_tSize c_tValue c_many c_nameSize c_one c_two c_kinds c_kindBits c_names c_netOf c_isTold c_soFar c_state c_stuck c_dusty) (fun r => (∀ e, e < 954 → nuM φ r.2.2.2.2.2.2.2.2.2.2.2.2.2.2.2.2.2.2.2.2.1 e = rt (jM φ n0) e) ∧ r.2.2.2.2.2.2.2.2.2.2.2.2.2.2.2.2.2.2.2.2.2.1 = t0)
  | 0, x1, c_tokens, c_at, c_fault, c_faultAt, c_side, c_fresh, c_kept, c_raceTick, c_tKind, c_tPlace, c_tSize, c_tValue, c_many, c_nameSize, c_one, c_two, c_kinds, c_kindBits, c_names, c_netOf, c_isTold, c_soFar, c_state, c_stuck, c_dusty, k, h0, h1, h2, h3, h4, h5 => pc_none
  | n + 1, x1, c_tokens, c_at, c_fault, c_faultAt, c_side, c_fresh, c_kept, c_raceTick, c_tKind, c_tPlace, c_tSize, c_tValue, c_many, c_nameSize, c_one, c_two, c_kinds, c_kindBits, c_names, c_netOf, c_isTold, c_soFar, c_state, c_stuck, c_dusty, k, h0, h1, h2, h3, h4, h5 => by
    unfold f_X11_reads_43
    refine pc_if (fun q => ?_) (fun q => ?_)
    · rw [tI_le, l_954] at q
      refine pc_mono (m_reads_94 c_size c_text FU _ _ _ _ _ _ _ _ _ _ _ _ _ _ _ _ _ _ _ _ _ _ _ _ _ _) (fun r hr => ⟨fun e he => ?_, hr.2.trans h3⟩)
      rw [hr.1]
      have := h4 e he
      rw [if_pos (by omega)] at this
      rw [← this]
      exact (jM_at he).symm
    · rw [tI_le, l_954] at q
      have k9 : k < 954 := by omega
      have b0 : (954 * c_fresh).toInt = 954 * φ := by ((try simp only [tI_lt, tI_le, tI_eq, tI_add, tI_sub, tI_mul, tI_nat, Int32.reduceToInt, Int.reduceToNat, fe_0, fe_1, fe_2, fe_3, fe_4, fe_5]) <;> (try simp (disch := omega) only [tI_bm]) <;> omega)
      have b2 : (954 * c_fresh + x1).toNatClampNeg = 954 * φ + k := by
        have : (954 * c_fresh + x1).toInt = 954 * φ + x1.toInt := by ((try simp only [tI_lt, tI_le, tI_eq, tI_add, tI_sub, tI_mul, tI_nat, Int32.reduceToInt, Int.reduceToNat, fe_0, fe_1, fe_2, fe_3, fe_4, fe_5]) <;> (try simp (disch := omega) only [tI_bm]) <;> omega)
        rw [tI_nat, this]; omega
      have b3 : (x1 + 1).toInt = ((k + 1 : Nat) : Int) := by ((try simp only [tI_lt, tI_le, tI_eq, tI_add, tI_sub, tI_mul, tI_nat, Int32.reduceToInt, Int.reduceToNat, fe_0, fe_1, fe_2, fe_3, fe_4, fe_5]) <;> (try simp (disch := omega) only [tI_bm]) <;> omega)
      have rr : rt (jM φ c_netOf) k = rt (jM φ n0) k := rt_short (jM φ n0) (jM φ c_netOf) (fun e => by
        by_cases he : e < 954
        · rw [h4 e he]
          by_cases z : e < k
          · rw [if_pos z]; exact .inr rfl
          · rw [if_neg z]; exact .inl rfl
        · unfold jM
          rw [if_neg he, if_neg he]; exact .inl rfl) k
      refine pc_bind (m_rootOf _ _ _ φ hφ h5 k b0 h1 k9) (fun r1 q1 => pc_bad (fun _ => pc_vlet (pc_vlet ?_)))
      rw [rr] at q1
      have le := rt_le (jM φ n0) k
      rw [b2]
      refine m_reads_43 c_size c_text φ hφ n0 t0 hn0 n _ _ _ _ _ _ _ _ _ _ _ _ _ _ _ _ _ _ _ _ _ _ _ _ _ _ (k + 1) h0 b3 (by omega) h3 (fun e he => ?_) (fun e he => ?_)
      · rw [jM_upd k9 q1]
        show (if e = k then rt (jM φ n0) k else jM φ c_netOf e) = _
        by_cases z : e = k
        · rw [if_pos z, if_pos (by omega), z]
        · rw [if_neg z, h4 e he]
          by_cases y : e < k
          · rw [if_pos y, if_pos (by omega)]
          · rw [if_neg y, if_neg (by omega)]
      · have := h5 e he
        rw [upd_at]
        split <;> omega
set_option maxHeartbeats 400000 in
theorem PRT_cg {en : EnT} {Q : List QnT} {g g2 : Nat → Nat} (hQ : ∀ q ∈ Q, en q.1 q.2.1 < 954) (e : ∀ x, x < 954 → g2 x = g x) (h : PRT en Q g) : PRT en Q g2 := ⟨fun q hq p hp w => by rw [e _ (hQ q hq), e _ (hQ p hp)]; exact h.1 q hq p hp w, fun T hT x y hx hy w t => h.2 T hT x y hx hy (by rw [← e x hx, ← e y hy]; exact w) t⟩
set_option maxHeartbeats 400000 in
theorem m_reads (c_size : Int32) (c_tokens : Int32) (c_at : Int32) (c_fault : Int32) (c_faultAt : Int32) (c_side : Int32) (c_fresh : Int32) (c_kept : Int32) (c_raceTick : Int32) (c_text : Nat → Int32) (c_tKind : Nat → Int32) (c_tPlace : Nat → Int32) (c_tSize : Nat → Int32) (c_tValue : Nat → Int64) (c_many : Nat → Int32) (c_nameSize : Nat → Int32) (c_one : Nat → Int32) (c_two : Nat → Int32) (c_kinds : Nat → Int32) (c_kindBits : Nat → Int32) (c_names : Nat → Int32) (c_netOf : Nat → Int32) (c_isTold : Nat → Int32) (c_soFar : Nat → Int32) (c_state : Nat → Int32) (c_stuck : Nat → Int32) (c_dusty : Nat → Int32) (σ L : Nat) (hσ : σ ≤ 1) (hsd : c_side.toInt = σ) (hs : c_size.toInt = L) (hL : L ≤ 4000) (hB : BY c_text L) (hG : GB c_nameSize c_kinds) (S : List StT) (hS : stmtsT c_text L = some S) (hok : okS S = true) (hA : allPin S (pnsOf S)) (hE : ∀ v c, okPin S v c = true → enS S v c < 954) : Pc (f_X11_reads c_size c_tokens c_at c_fault c_faultAt c_side c_fresh c_kept c_raceTick c_text c_tKind c_tPlace c_tSize c_tValue c_many c_nameSize c_one c_two c_kinds c_kindBits c_names c_netOf c_isTold c_soFar c_state c_stuck c_dusty) (fun r => NETM (1 - σ) S r.2.2.2.2.2.2.2.2.2.2.2.2.2.2.2.2.2.2.2.2.1 r.2.2.2.2.2.2.2.2.2.2.2.2.2.2.2.2.2.2.2.2.2.1) := by
  unfold f_X11_reads
  have e1 : ((1 : Int32) - c_side).toInt = ((1 - σ : Nat) : Int) := by ((try simp only [tI_lt, tI_le, tI_eq, tI_add, tI_sub, tI_mul, tI_nat, Int32.reduceToInt, Int.reduceToNat, fe_0, fe_1, fe_2, fe_3, fe_4, fe_5]) <;> (try simp (disch := omega) only [tI_bm]) <;> omega)
  have hφ : 1 - σ ≤ 1 := by omega
  refine pc_vlet (pc_bind (pc_ok (s_X11_lex _ _ _ _ _ _ _ L hs hL hB)) (fun r2 h2 => ?_))
  obtain ⟨m1, m2, m3⟩ := h2
  have hlen : (toksT c_text L).length ≤ 4001 := by
    unfold toksT
    rw [List.length_reverse]; omega
  have km : KM c_text L r2.2.1 r2.2.2.1 r2.2.2.2.1 r2.2.2.2.2 0 (toksT c_text L) := by
    refine ⟨by decide, ?_, ?_, TKS_TG (TKS_end c_text L)⟩
    · rw [l_0]; omega
    · rw [show (0 : Int32).toInt.toNat = 0 from by decide]
      exact MT_RM _ _ _ _ _ _ _ m3
  refine pc_bind (pc_ok (s_parts _ _ _ _ _ _ _ _ _ _ _ _ _ _ _ _ (1 - σ) L hφ e1 hL (toksT c_text L) km hlen hG)) (fun r3 h3 => ?_)
  obtain ⟨q1, q2, q3⟩ := h3
  have est : stmtsT c_text L = txt (pText 4002 (toksT c_text L)) [] := rfl
  cases hp : pText 4002 (toksT c_text L) with
  | none =>
    rw [est, hp] at hS
    cases hS
  | some ss =>
    have est2 : stmtsT c_text L = some ss.reverse := by
      rw [est, hp]
      show some (ss.reverse ++ []) = _
      rw [List.append_nil]
    rw [est2] at hS
    injection hS with hS
    subst hS
    rw [hp] at q3
    have q3' : DMs (1 - σ) r3.2.1 r3.2.2.2.1 r3.2.2.2.2.1 r3.2.2.2.2.2.2.2.2.2 r3.2.2.2.2.2.1 r3.2.2.2.2.2.2.1 r3.2.2.2.2.2.2.2.1 r3.2.2.2.2.2.2.2.2.1 (ss.reverse ++ []) := q3
    rw [List.append_nil] at q3'
    obtain ⟨d1, d2⟩ := q3'
    rcases d2 with ⟨d2, d3, d4, d5⟩ | ⟨d2, d3⟩
    · rw [if_pos d3]
      have hcm : ∀ s, s < 5 → cnt s ss.reverse ≤ mst s := fun s hs => okC_cnt s hs _ d2
      refine pc_bind (pc_and (pc_ok (s_namesAndWires _ _ _ _ _ _ _ _ _ _ _ _ _ _ _ _ (1 - σ) ss.reverse r3.2.2.2.2.2.1 r3.2.2.2.2.2.2.1 r3.2.2.2.2.2.2.2.2.1 hφ e1 d5 q2 hcm L hL d4 d2 (toksT c_text L) ss km hlen d3 hp rfl)) (m_namesAndWires _ _ _ _ _ _ _ _ _ _ _ _ _ _ _ _ (1 - σ) ss.reverse r3.2.2.2.2.2.1 r3.2.2.2.2.2.2.1 r3.2.2.2.2.2.2.2.2.1 hφ e1 d5 q2 hcm hok hA hE L hL d4 (toksT c_text L) ss km d3 hp rfl)) (fun r4 h4 => ?_)
      obtain ⟨⟨n1, n2, n3⟩, n4⟩ := h4
      have f0 : r4.2.1 = 0 := by
        rcases n1 with ⟨n1, -⟩ | ⟨n1, n9⟩
        · exact n1
        · exact absurd ⟨hok, hA⟩ n9
      unfold f_X11_reads_29
      rw [if_pos (by rw [f0]; decide)]
      refine pc_mono (m_reads_43 c_size c_text (1 - σ) hφ r4.2.2.2.1 r4.2.2.2.2.1 n2 FU _ _ _ _ _ _ _ _ _ _ _ _ _ _ _ _ _ _ _ _ _ _ _ _ _ _ 0 e1 (by decide) (by decide) rfl (fun e he => by rw [if_neg (Nat.not_lt_zero _)]) n2) (fun r hr => ?_)
      obtain ⟨y1, y2⟩ := hr
      refine ⟨PRT_cg (fun q hq => hE _ _ (hA q hq)) y1 n4.1, by rw [y2]; exact n4.2, fun e he => ?_⟩
      have le := rt_le (jM (1 - σ) r4.2.2.2.1) e
      rw [y1 e he, y1 _ (by omega), rt_id]
    · have := okS_okC _ hok
      rw [d2] at this
      exact absurd this (by decide)
