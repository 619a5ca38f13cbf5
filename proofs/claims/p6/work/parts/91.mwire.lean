/-! nets laid: joining, and a wire's PINs -/
def NI (b : Nat) (netOf : Nat → Int32) : Prop := ∀ e : Nat, e < 954 → 0 ≤ (netOf (b + e)).toInt ∧ (netOf (b + e)).toInt ≤ e
def FrN (φ : Nat) (netOf isTold netOf2 isTold2 : Nat → Int32) : Prop := ∀ i : Nat, ¬ (954 * φ ≤ i ∧ i < 954 * φ + 954) → netOf2 i = netOf i ∧ isTold2 i = isTold i
set_option maxHeartbeats 400000 in
theorem FrN_rf (φ : Nat) (a b : Nat → Int32) : FrN φ a b a b := fun _ _ => ⟨rfl, rfl⟩
set_option maxHeartbeats 400000 in
theorem FrN_tr {φ : Nat} {a b a1 b1 a2 b2 : Nat → Int32} (h : FrN φ a b a1 b1) (k : FrN φ a1 b1 a2 b2) : FrN φ a b a2 b2 := fun i hi => ⟨(k i hi).1.trans (h i hi).1, (k i hi).2.trans (h i hi).2⟩
set_option maxHeartbeats 400000 in
theorem s_rootOf_2 (c_netOf : Nat → Int32) (b : Nat) (hb : b ≤ 954) (hN : NI b c_netOf) : ∀ (n : Nat) (x1 : Int32) (x3 : Int32), x1.toInt = b → 0 ≤ x3.toInt → x3.toInt < 954 → x3.toInt < n → Ok (f_X11_rootOf_2 c_netOf n x1 x3) (fun r => 0 ≤ r.toInt ∧ r.toInt ≤ x3.toInt ∧ r.toInt < 954)
  | 0, x1, x3, h1, h2, h3, h4 => by exfalso; omega
  | n + 1, x1, x3, h1, h2, h3, h4 => by
    unfold f_X11_rootOf_2
    have e1 : (x1 + x3).toInt = b + x3.toInt := by ((try simp only [tI_lt, tI_le, tI_eq, tI_add, tI_sub, tI_mul, tI_nat, Int32.reduceToInt, Int.reduceToNat, fe_0, fe_1, fe_2, fe_3, fe_4, fe_5]) <;> (try simp (disch := omega) only [tI_bm]) <;> omega)
    have e2 : (x1 + x3).toNatClampNeg = b + x3.toInt.toNat := by rw [tI_nat, e1]; omega
    have nn := hN x3.toInt.toNat (by omega)
    refine ok_bad (by omega) ?_
    rw [e2]
    refine ok_if (fun _ => ok_some ⟨h2, by omega, h3⟩) (fun a => ok_bad (by omega) (ok_vlet ?_))
    have a2 : ¬ (c_netOf (b + x3.toInt.toNat)).toInt = x3.toInt := fun q => a (Int32.toInt_inj.mp q)
    refine ok_mono (s_rootOf_2 c_netOf b hb hN n x1 _ h1 nn.1 (by omega) (by omega)) (fun r hr => ⟨hr.1, by omega, hr.2.2⟩)
set_option maxHeartbeats 400000 in
theorem s_rootOf (x1 : Int32) (x2 : Int32) (c_netOf : Nat → Int32) (b : Nat) (hb : b ≤ 954) (hN : NI b c_netOf) (h1 : x1.toInt = b) (h2 : 0 ≤ x2.toInt) (h3 : x2.toInt < 954) : Ok (f_X11_rootOf x1 x2 c_netOf) (fun r => 0 ≤ r.toInt ∧ r.toInt ≤ x2.toInt ∧ r.toInt < 954) := by
  unfold f_X11_rootOf
  exact s_rootOf_2 c_netOf b hb hN FU _ _ h1 h2 h3 (by rw [FU_eq]; omega)
set_option maxHeartbeats 400000 in
theorem s_join (x1 : Int32) (x2 : Int32) (x3 : Int32) (c_netOf : Nat → Int32) (φ : Nat) (hφ : φ ≤ 1) (hN : NI (954 * φ) c_netOf) (h1 : x1.toInt = 954 * φ) (h2 : 0 ≤ x2.toInt ∧ x2.toInt < 954) (h3 : 0 ≤ x3.toInt ∧ x3.toInt < 954) : Ok (f_X11_join x1 x2 x3 c_netOf) (fun r => NI (954 * φ) r ∧ ∀ i : Nat, ¬ (954 * φ ≤ i ∧ i < 954 * φ + 954) → r i = c_netOf i) := by
  unfold f_X11_join
  have h1' : x1.toInt = ((954 * φ : Nat) : Int) := by omega
  refine ok_bind (s_rootOf _ _ _ (954 * φ) (by omega) hN h1' h2.1 h2.2) (fun r1 q1 => ok_bind (s_rootOf _ _ _ (954 * φ) (by omega) hN h1' h3.1 h3.2) (fun r2 q2 => ok_if (fun _ => ok_some ⟨hN, fun _ _ => rfl⟩) (fun a => ok_vlet ?_)))
  have hm : 0 ≤ (xmax r1 r2).toInt ∧ (xmax r1 r2).toInt < (954 : Nat) ∧ 0 ≤ (xmin r1 r2).toInt ∧ (xmin r1 r2).toInt ≤ (xmax r1 r2).toInt := by
    unfold xmax xmin
    repeat' split
    all_goals ((try simp only [tI_lt, tI_le, tI_eq, tI_add, tI_sub, tI_mul, tI_nat, Int32.reduceToInt, Int.reduceToNat, fe_0, fe_1, fe_2, fe_3, fe_4, fe_5] at *) <;> (try simp (disch := omega) only [tI_bm]) <;> (first | omega | ((try simp (disch := omega) only [tI_bm] at *) <;> omega)))
  generalize xmax r1 r2 = mx at hm
  generalize xmin r1 r2 = mn at hm
  have e1 : (x1 + mx).toInt = 954 * φ + mx.toInt := by ((try simp only [tI_lt, tI_le, tI_eq, tI_add, tI_sub, tI_mul, tI_nat, Int32.reduceToInt, Int.reduceToNat, fe_0, fe_1, fe_2, fe_3, fe_4, fe_5]) <;> (try simp (disch := omega) only [tI_bm]) <;> omega)
  have e2 : (x1 + mx).toNatClampNeg = 954 * φ + mx.toInt.toNat := by rw [tI_nat, e1]; omega
  refine ok_bad (by omega) (ok_vlet (ok_some ⟨fun e he => ?_, fun i hi => ?_⟩))
  · have := hN e he
    rw [e2, upd_at]
    split <;> omega
  · rw [e2, upd_at, if_neg (by omega)]
def WireT (t : Nat → Int32) (L φ : Nat) (kd pl sz : Nat → Int32) (vl : Nat → Int64) (netOf isTold : Nat → Int32) (S : List StT) (ps : List PinT) (rest : List TkT) (r : Int32 × Int32 × Int32 × (Nat → Int32) × (Nat → Int32)) : Prop := ((r.2.1 = 3 ∧ (okS S = true → ∃ p ∈ ps, okPin S p.1 p.2 = false)) ∨ (r.2.1 = 0 ∧ KM t L kd pl sz vl r.1 rest ∧ isSn rest 59 = true ∧ (okS S = true → ∀ p ∈ ps, okPin S p.1 p.2 = true))) ∧ NI (954 * φ) r.2.2.2.1 ∧ FrN φ netOf isTold r.2.2.2.1 r.2.2.2.2
set_option maxHeartbeats 400000 in
theorem s_toldWire_12 (c_fresh : Int32) (c_text : Nat → Int32) (c_tKind : Nat → Int32) (c_tPlace : Nat → Int32) (c_tSize : Nat → Int32) (c_tValue : Nat → Int64) (c_many : Nat → Int32) (c_nameSize : Nat → Int32) (c_kinds : Nat → Int32) (c_names : Nat → Int32) (φ : Nat) (S : List StT) (one two bits : Nat → Int32) (hφ : φ ≤ 1) (hfr : c_fresh.toInt = φ) (hP : PMr φ c_nameSize c_names one two c_kinds bits S) (hG : GB c_nameSize c_kinds) (hc : ∀ s, s < 5 → cnt s S ≤ mst s) (L : Nat) (hL : L ≤ 4000) (hmn : ∀ s, s < 5 → (c_many (5 * φ + s)).toInt = cnt s S) : ∀ (n : Nat) (x1 : Int32) (c_at : Int32) (c_fault : Int32) (c_faultAt : Int32) (c_netOf : Nat → Int32) (c_isTold : Nat → Int32) (f : Nat) (l rest : List TkT) (ps : List PinT), KM c_text L c_tKind c_tPlace c_tSize c_tValue c_at l → c_fault = 0 → pPins f l = some (ps, rest) → (x1 = -1 ∨ 0 ≤ x1.toInt ∧ x1.toInt < 954) → NI (954 * φ) c_netOf → l.length < n → Ok (f_X11_toldWire_12 c_fresh c_text c_tKind c_tPlace c_tSize c_tValue c_many c_nameSize c_kinds c_names n x1 c_at c_fault c_faultAt c_netOf c_isTold) (WireT c_text L φ c_tKind c_tPlace c_tSize c_tValue c_netOf c_isTold S ps rest)
  | 0, x1, c_at, c_fault, c_faultAt, c_netOf, c_isTold, f, l, rest, ps, h, hf, hp, hx, hN, hn => absurd hn (Nat.not_lt_zero _)
  | n + 1, x1, c_at, c_fault, c_faultAt, c_netOf, c_isTold, 0, l, rest, ps, h, hf, hp, hx, hN, hn => by cases hp
  | n + 1, x1, c_at, c_fault, c_faultAt, c_netOf, c_isTold, f + 1, l, rest, ps, h, hf, hp, hx, hN, hn => by
    unfold f_X11_toldWire_12
    unfold pPins at hp
    have hf1 : ¬ c_fault = 1 := by rw [hf]; decide
    rw [if_pos hf]
    refine ok_eq (e_isSign _ _ _ _ _ c_text L c_tPlace c_tSize l h (by decide)) ?_
    rw [show (59 : Int32).toInt.toNat = 59 from by decide]
    by_cases s : isSn l 59 = true
    · rw [if_pos s] at hp
      injection hp with hp; injection hp with p1 p2
      rw [i01_t hf1 s, if_neg (by decide)]
      subst p1 p2
      exact ok_some ⟨.inr ⟨hf, h, s, fun _ p hp => absurd hp (List.not_mem_nil)⟩, hN, FrN_rf _ _ _⟩
    · rw [if_neg s] at hp
      rw [i01_f s, if_pos rfl]
      cases hq : pPin l with
      | none => rw [hq] at hp; cases hp
      | some y =>
        obtain ⟨p, l2⟩ := y
        rw [hq] at hp
        dsimp only at hp
        cases hq2 : pPins f l2 with
        | none => rw [hq2] at hp; cases hp
        | some y2 =>
          obtain ⟨ps2, r2⟩ := y2
          rw [hq2] at hp
          injection hp with hp; injection hp with p1 p2
          subst p1 p2
          have ll := pPin_len hq
          refine ok_bind (s_end _ _ _ _ _ _ _ _ _ _ _ _ _ φ S one two bits hφ hfr hP hG hc L l l2 p hL hf h hmn hq) (fun r hr => ?_)
          rcases hr with ⟨e1, e2, e3⟩ | ⟨e1, e2, e3, e4, e5⟩
          · rw [if_pos e1]
            exact ok_some ⟨.inl ⟨e2, fun ho => ⟨p, List.mem_cons_self .., e3 ho⟩⟩, hN, FrN_rf _ _ _⟩
          · rw [if_neg (fun q => by rw [q, show (-1 : Int32).toInt = -1 from by decide] at e1; omega)]
            have b1 : (954 * c_fresh + r.1).toInt = 954 * φ + r.1.toInt := by ((try simp only [tI_lt, tI_le, tI_eq, tI_add, tI_sub, tI_mul, tI_nat, Int32.reduceToInt, Int.reduceToNat, fe_0, fe_1, fe_2, fe_3, fe_4, fe_5]) <;> (try simp (disch := omega) only [tI_bm]) <;> omega)
            have b2 : (954 * c_fresh + r.1).toNatClampNeg = 954 * φ + r.1.toInt.toNat := by rw [tI_nat, b1]; omega
            have b3 : (954 * c_fresh).toInt = 954 * φ := by ((try simp only [tI_lt, tI_le, tI_eq, tI_add, tI_sub, tI_mul, tI_nat, Int32.reduceToInt, Int.reduceToNat, fe_0, fe_1, fe_2, fe_3, fe_4, fe_5]) <;> (try simp (disch := omega) only [tI_bm]) <;> omega)
            refine ok_bad (by omega) (ok_vlet ?_)
            rw [b2]
            have fr1 : FrN φ c_netOf c_isTold c_netOf (upd c_isTold (954 * φ + r.1.toInt.toNat) (vp_nar .boolean (1 : Int32))) := fun i hi => ⟨rfl, by rw [upd_at, if_neg (by omega)]⟩
            have go : ∀ (y : Int32) (no2 : Nat → Int32), (y = -1 ∨ 0 ≤ y.toInt ∧ y.toInt < 954) → NI (954 * φ) no2 → FrN φ c_netOf c_isTold no2 (upd c_isTold (954 * φ + r.1.toInt.toNat) (vp_nar .boolean (1 : Int32))) → Ok (f_X11_toldWire_12 c_fresh c_text c_tKind c_tPlace c_tSize c_tValue c_many c_nameSize c_kinds c_names n y r.2.1 r.2.2.1 r.2.2.2 no2 (upd c_isTold (954 * φ + r.1.toInt.toNat) (vp_nar .boolean (1 : Int32)))) (WireT c_text L φ c_tKind c_tPlace c_tSize c_tValue c_netOf c_isTold S (p :: ps2) r2) := by
              intro y no2 hy hno hfr2
              refine ok_mono (s_toldWire_12 c_fresh c_text c_tKind c_tPlace c_tSize c_tValue c_many c_nameSize c_kinds c_names φ S one two bits hφ hfr hP hG hc L hL hmn n _ _ _ _ _ _ f l2 r2 ps2 e3 e4 hq2 hy hno (by omega)) (fun z hz => ?_)
              obtain ⟨z1, z2, z3⟩ := hz
              refine ⟨?_, z2, FrN_tr hfr2 z3⟩
              rcases z1 with ⟨w1, w2⟩ | ⟨w1, w2, w3, w4⟩
              · refine .inl ⟨w1, fun ho => ?_⟩
                obtain ⟨p9, m1, m2⟩ := w2 ho
                exact ⟨p9, List.mem_cons_of_mem _ m1, m2⟩
              · refine .inr ⟨w1, w2, w3, fun ho p9 m9 => ?_⟩
                rcases List.mem_cons.mp m9 with q | q
                · rw [q]; exact e5 ho
                · exact w4 ho p9 q
            unfold f_X11_toldWire_79
            refine ok_if (fun a => go _ _ (.inr ⟨e1, e2⟩) hN fr1) (fun a => ?_)
            refine ok_bind (s_join _ _ _ _ φ hφ hN b3 (hx.resolve_left a) ⟨e1, e2⟩) (fun r5 h5 => go _ _ hx h5.1 (fun i hi => ⟨h5.2 i hi, (fr1 i hi).2⟩))
set_option maxHeartbeats 400000 in
theorem s_toldWire (c_at : Int32) (c_fault : Int32) (c_faultAt : Int32) (c_fresh : Int32) (c_text : Nat → Int32) (c_tKind : Nat → Int32) (c_tPlace : Nat → Int32) (c_tSize : Nat → Int32) (c_tValue : Nat → Int64) (c_many : Nat → Int32) (c_nameSize : Nat → Int32) (c_kinds : Nat → Int32) (c_names : Nat → Int32) (c_netOf : Nat → Int32) (c_isTold : Nat → Int32) (φ : Nat) (S : List StT) (one two bits : Nat → Int32) (hφ : φ ≤ 1) (hfr : c_fresh.toInt = φ) (hP : PMr φ c_nameSize c_names one two c_kinds bits S) (hG : GB c_nameSize c_kinds) (hc : ∀ s, s < 5 → cnt s S ≤ mst s) (L : Nat) (hL : L ≤ 4000) (hmn : ∀ s, s < 5 → (c_many (5 * φ + s)).toInt = cnt s S) (l rest : List TkT) (ps : List PinT) (h : KM c_text L c_tKind c_tPlace c_tSize c_tValue c_at l) (hw : (hd l).1 = 1) (hf : c_fault = 0) (hp : pPins 4002 l.tail = some (ps, rest)) (hN : NI (954 * φ) c_netOf) : Ok (f_X11_toldWire c_at c_fault c_faultAt c_fresh c_text c_tKind c_tPlace c_tSize c_tValue c_many c_nameSize c_kinds c_names c_netOf c_isTold) (WireT c_text L φ c_tKind c_tPlace c_tSize c_tValue c_netOf c_isTold S ps rest) := by
  unfold f_X11_toldWire
  have n1 := (KM_next h (.inl hw)).1
  have ln := n1.2.1
  have l0 := n1.1
  exact ok_vlet (s_toldWire_12 c_fresh c_text c_tKind c_tPlace c_tSize c_tValue c_many c_nameSize c_kinds c_names φ S one two bits hφ hfr hP hG hc L hL hmn FU _ _ _ _ _ _ 4002 l.tail rest ps n1 hf hp (.inl rfl) hN (by rw [FU_eq]; omega))
