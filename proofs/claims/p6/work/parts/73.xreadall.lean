/-! the class reads a TEXT -/
set_option maxHeartbeats 400000 in
theorem k_end {k : Int32} {v : Int64} {l : List TkT} (h : xm k v (hd l)) : k = 3 ↔ (hd l).1 = 0 := by
  rw [tI_eq, show (3 : Int32).toInt = 3 from by decide]
  have w := wc_eq (hd l).2.1
  rcases h with ⟨a, b, -⟩ | ⟨a, b, -⟩ | ⟨a, b, d⟩ | ⟨a, b⟩ | ⟨a, b⟩
  · omega
  · rw [b, show (2 : Int32).toInt = 2 from by decide]; omega
  · rw [isSg_t] at d; omega
  · rw [b, show (4 : Int32).toInt = 4 from by decide]; omega
  · rw [b, show (3 : Int32).toInt = 3 from by decide]; omega
set_option maxHeartbeats 400000 in
theorem pPins_len : ∀ (f : Nat) (l r : List TkT) (ps : List PinT), pPins f l = some (ps, r) → r.length ≤ l.length
  | 0, l, r, ps, h => by cases h
  | f + 1, l, r, ps, h => by
    unfold pPins at h
    split at h
    · cases h; exact Nat.le_refl _
    · cases hp : pPin l with
      | none => rw [hp] at h; cases h
      | some y =>
        obtain ⟨p, r1⟩ := y
        rw [hp] at h
        dsimp only at h
        have := pPin_len hp
        cases hq : pPins f r1 with
        | none => rw [hq] at h; cases h
        | some z =>
          obtain ⟨ps2, r2⟩ := z
          rw [hq] at h
          cases h
          have := pPins_len f r1 r ps2 hq
          omega
set_option maxHeartbeats 400000 in
theorem pBody_len {l r : List TkT} {st : StT} (h : pBody l = some (st, r)) : r.length < l.length := by
  cases l with
  | nil =>
    rw [show pBody [] = none from rfl] at h
    cases h
  | cons t l =>
    have a1 := @List.length_tail TkT l
    have a2 := @List.length_tail TkT l.tail
    have a3 := @List.length_tail TkT l.tail.tail
    have pk := pK_ge 6 0 0 l.tail.tail.tail
    have e1 : (t :: l).tail = l := rfl
    unfold pBody at h
    rw [e1] at h
    rw [List.length_cons]
    split at h
    · cases hp : pPins 4002 l with
      | none => rw [hp] at h; cases h
      | some y =>
        obtain ⟨ps, r1⟩ := y
        rw [hp] at h
        dsimp only at h
        have := pPins_len _ _ _ _ hp
        split at h
        · cases h; omega
        · cases h
    · repeat' split at h
      all_goals cases h
      all_goals omega
set_option maxHeartbeats 400000 in
theorem pStmt_len {l r : List TkT} {st : StT} (h : pStmt l = some (st, r)) : r.length < l.length := by
  unfold pStmt at h
  cases hp : pBody l with
  | none => rw [hp] at h; cases h
  | some y =>
    obtain ⟨s, r1⟩ := y
    rw [hp] at h
    dsimp only at h
    have a := pBody_len hp
    have b := @List.length_tail TkT r1
    split at h
    · cases h; omega
    · cases h
set_option maxHeartbeats 400000 in
theorem NS_of {parts cont : Nat → Int32} (h : PB parts) (hc : CB cont) : NS parts cont := by
  have h0 := h 0 (by decide)
  have h1 := h 1 (by decide)
  have h2 := h 2 (by decide)
  have h3 := h 3 (by decide)
  have h4 := h 4 (by decide)
  rw [show mst 0 = 40 from rfl] at h0
  rw [show mst 1 = 24 from rfl] at h1
  rw [show mst 2 = 24 from rfl] at h2
  rw [show mst 3 = 4 from rfl] at h3
  rw [show mst 4 = 24 from rfl] at h4
  exact ⟨h0, h1, h2, h3, h4, hc⟩
/-! what a reading comes to -/
def RP (S : List StT) (acc : Prop) (ret toldNets : Int32) (places parts : Nat → Int32) (names : Nat → Nat → Int64) (pick drop cont makes per on_ : Nat → Int32) : Prop := CB cont ∧ PA places ∧ ((acc ∧ ret = 1 ∧ GS (-1) (-1) parts names cont S ∧ NX pick drop cont makes per on_ S ∧ 0 ≤ toldNets.toInt ∧ toldNets.toInt ≤ 954) ∨ (¬ acc ∧ ret = 0))
set_option maxHeartbeats 400000 in
theorem s_read_96 (c_tokens_length : Int32) (c_tokens_text : Nat → Int32) (c_fault : Int32) (c_faultPlace : Int32) (c_firstMany : Int32) (c_firstTwice : Int32) (c_at : Int32) (c_nameAt : Int32) (c_number : Int32) (c_pins : Int32) (c_wires : Int32) (c_tokens_size : Int32) (c_tokens_kinds : Nat → Int32) (c_tokens_places : Nat → Int32) (c_tokens_values : Nat → Int64) (c_draft_toldNets : Int32) (c_draft_nets : Int32) (c_draft_parts : Nat → Int32) (c_draft_names : Nat → Nat → Int64) (c_draft_pickTime : Nat → Int32) (c_draft_dropTime : Nat → Int32) (c_draft_contacts : Nat → Int32) (c_draft_makes : Nat → Int32) (c_draft_period : Nat → Int32) (c_draft_onTime : Nat → Int32) (c_draft_told : Nat → Int32) (c_draft_joined : Nat → Int32) (c_draft_netOf : Nat → Int32) (c_pinAt : Nat → Int32) (c_pinEnds : Nat → Int32) (c_pinWires : Nat → Int32) (S : List StT) (W : Nat) (hPA : PA c_tokens_places) (hJ : JB c_draft_joined) (hR : RS c_tokens_kinds c_tokens_values c_firstMany c_firstTwice c_pins c_wires c_draft_parts c_draft_names c_draft_pickTime c_draft_dropTime c_draft_contacts c_draft_makes c_draft_period c_draft_onTime c_pinAt c_pinEnds c_pinWires S W) : Ok (f_X5_read_96 c_tokens_length c_tokens_text c_fault c_faultPlace c_firstMany c_firstTwice c_at c_nameAt c_number c_pins c_wires c_tokens_size c_tokens_kinds c_tokens_places c_tokens_values c_draft_toldNets c_draft_nets c_draft_parts c_draft_names c_draft_pickTime c_draft_dropTime c_draft_contacts c_draft_makes c_draft_period c_draft_onTime c_draft_told c_draft_joined c_draft_netOf c_pinAt c_pinEnds c_pinWires) (fun r => RP S (okS S = true ∧ allPin S (pnsOf S)) r.1 r.2.2.2.2.2.2.2.2.2.2.2.2.2.2.1 r.2.2.2.2.2.2.2.2.2.2.2.2.1 r.2.2.2.2.2.2.2.2.2.2.2.2.2.2.2.2.1 r.2.2.2.2.2.2.2.2.2.2.2.2.2.2.2.2.2.1 r.2.2.2.2.2.2.2.2.2.2.2.2.2.2.2.2.2.2.1 r.2.2.2.2.2.2.2.2.2.2.2.2.2.2.2.2.2.2.2.1 r.2.2.2.2.2.2.2.2.2.2.2.2.2.2.2.2.2.2.2.2.1 r.2.2.2.2.2.2.2.2.2.2.2.2.2.2.2.2.2.2.2.2.2.1 r.2.2.2.2.2.2.2.2.2.2.2.2.2.2.2.2.2.2.2.2.2.2.1 r.2.2.2.2.2.2.2.2.2.2.2.2.2.2.2.2.2.2.2.2.2.2.2.1) := by
  obtain ⟨⟨hB, hT, hD⟩, hN, hC, hP, hQ, hW, hw⟩ := hR
  have ns := NS_of hB hC
  unfold f_X5_read_96 f_X5_findEnds
  rcases hD with ⟨d1, d2, d3, d4, d5⟩ | ⟨d1, d2⟩
  · rw [if_pos d2]
    have nx := hN d1
    have hG : GS (-1) (-1) c_draft_parts c_draft_names c_draft_contacts S := ⟨d1, ns, hB, d4, d5, fun i a ha => (AT_NX _ _ _ _ _ _ i a S nx ha).2.2.1⟩
    refine ok_bind (s_findEnds_ok c_firstTwice c_pins c_tokens_kinds c_tokens_places c_tokens_values c_draft_parts c_draft_names c_draft_contacts c_pinAt S (pnsOf S) c_pinEnds c_pinWires hG d3 hP (by omega) hQ hPA FU 0 c_pinEnds (by decide) (by rw [show (0 : Int32).toInt = 0 from by decide]; omega) (by rw [FU_eq, show (0 : Int32).toInt = 0 from by decide]; omega) (fun i hi => by rw [show (0 : Int32).toInt = 0 from by decide] at hi; omega) (fun i _ => rfl)) (fun r1 hr => ?_)
    rcases hr with ⟨g1, g2⟩ | ⟨g1, g2⟩
    · rw [if_pos g1]
      refine ok_bind (s_X5_joinWires _ _ _ _ _ (by omega) hJ) (fun r2 q2 => ok_bind (s_X3_numberNets _ _ _ _ _ _ _ ns q2) (fun r3 q3 => ok_some ⟨hC, hPA, .inl ⟨⟨d1, g2⟩, rfl, hG, nx, q3.1, q3.2⟩⟩))
    · rw [if_neg g1]
      refine ok_eq (a := (0, 3, r1.1)) rfl ?_
      rw [if_pos (show isB (0 : Int32) = true by decide)]
      exact ok_some ⟨hC, hPA, .inr ⟨fun q => g2 q.2, rfl⟩⟩
  · have nacc : ¬ (okS S = true ∧ allPin S (pnsOf S)) := fun q => by rw [d1] at q; exact absurd q.1 (by decide)
    refine ok_if (fun fm => ?_) (fun fm => ?_)
    · have ft : 0 ≤ c_firstTwice.toInt := hT.elim (fun q => absurd ⟨fm, q⟩ d2) (fun q => q)
      refine ok_bind (s_findEnds_bad c_firstTwice c_pins c_tokens_kinds c_tokens_places c_tokens_values c_draft_parts c_draft_names c_draft_contacts c_pinAt ns hB (by omega) (fun i hi => QX_at _ _ _ _ _ _ hQ i (by omega)) hPA ft FU 0 c_pinEnds (by decide) (by decide) (by rw [FU_eq]; decide)) (fun r1 hr => ?_)
      rw [if_neg hr]
      refine ok_eq (a := (0, 3, r1.1)) rfl ?_
      rw [if_pos (show isB (0 : Int32) = true by decide)]
      exact ok_some ⟨hC, hPA, .inr ⟨nacc, rfl⟩⟩
    · refine ok_eq (a := (0, 2, c_firstMany)) rfl ?_
      rw [if_pos (show isB (0 : Int32) = true by decide)]
      exact ok_some ⟨hC, hPA, .inr ⟨nacc, rfl⟩⟩
set_option maxHeartbeats 400000 in
theorem s_read_72 (c_tokens_length : Int32) (c_tokens_text : Nat → Int32) (c_fault : Int32) (c_faultPlace : Int32) (c_firstMany : Int32) (c_firstTwice : Int32) (c_at : Int32) (c_nameAt : Int32) (c_number : Int32) (c_pins : Int32) (c_wires : Int32) (c_tokens_size : Int32) (c_tokens_kinds : Nat → Int32) (c_tokens_places : Nat → Int32) (c_tokens_values : Nat → Int64) (c_draft_toldNets : Int32) (c_draft_nets : Int32) (c_draft_parts : Nat → Int32) (c_draft_names : Nat → Nat → Int64) (c_draft_pickTime : Nat → Int32) (c_draft_dropTime : Nat → Int32) (c_draft_contacts : Nat → Int32) (c_draft_makes : Nat → Int32) (c_draft_period : Nat → Int32) (c_draft_onTime : Nat → Int32) (c_draft_told : Nat → Int32) (c_draft_joined : Nat → Int32) (c_draft_netOf : Nat → Int32) (c_pinAt : Nat → Int32) (c_pinEnds : Nat → Int32) (c_pinWires : Nat → Int32) (S : List StT) (acc : Prop) (hacc : ¬ acc) (h : 0 ≤ c_at.toInt ∧ c_at.toInt < 4001) (hPA : PA c_tokens_places) (hC : CB c_draft_contacts) : Ok (f_X5_read_72 c_tokens_length c_tokens_text c_fault c_faultPlace c_firstMany c_firstTwice c_at c_nameAt c_number c_pins c_wires c_tokens_size c_tokens_kinds c_tokens_places c_tokens_values c_draft_toldNets c_draft_nets c_draft_parts c_draft_names c_draft_pickTime c_draft_dropTime c_draft_contacts c_draft_makes c_draft_period c_draft_onTime c_draft_told c_draft_joined c_draft_netOf c_pinAt c_pinEnds c_pinWires) (fun r => RP S acc r.1 r.2.2.2.2.2.2.2.2.2.2.2.2.2.2.1 r.2.2.2.2.2.2.2.2.2.2.2.2.1 r.2.2.2.2.2.2.2.2.2.2.2.2.2.2.2.2.1 r.2.2.2.2.2.2.2.2.2.2.2.2.2.2.2.2.2.1 r.2.2.2.2.2.2.2.2.2.2.2.2.2.2.2.2.2.2.1 r.2.2.2.2.2.2.2.2.2.2.2.2.2.2.2.2.2.2.2.1 r.2.2.2.2.2.2.2.2.2.2.2.2.2.2.2.2.2.2.2.2.1 r.2.2.2.2.2.2.2.2.2.2.2.2.2.2.2.2.2.2.2.2.2.1 r.2.2.2.2.2.2.2.2.2.2.2.2.2.2.2.2.2.2.2.2.2.2.1 r.2.2.2.2.2.2.2.2.2.2.2.2.2.2.2.2.2.2.2.2.2.2.2.1) := by
  unfold f_X5_read_72
  refine ok_bad h (ok_eq (a := (0, 1, c_tokens_places c_at.toNatClampNeg)) rfl ?_)
  rw [if_pos (show isB (0 : Int32) = true by decide)]
  exact ok_some ⟨hC, hPA, .inr ⟨hacc, rfl⟩⟩
def txt (o : Option (List StT)) (S : List StT) : Option (List StT) := match o with
  | none => none
  | some ss => some (ss.reverse ++ S)
def accT (o : Option (List StT)) : Prop := match o with
  | none => False
  | some S => okS S = true ∧ allPin S (pnsOf S)
def getT (o : Option (List StT)) : List StT := match o with
  | none => []
  | some S => S
set_option maxHeartbeats 400000 in
theorem s_read_41 (c_tokens_length : Int32) (c_tokens_text : Nat → Int32) (hlen : True) : ∀ (n : Nat) (x1 : Int32) (c_fault : Int32) (c_faultPlace : Int32) (c_firstMany : Int32) (c_firstTwice : Int32) (c_at : Int32) (c_nameAt : Int32) (c_number : Int32) (c_pins : Int32) (c_wires : Int32) (c_tokens_size : Int32) (c_tokens_kinds : Nat → Int32) (c_tokens_places : Nat → Int32) (c_tokens_values : Nat → Int64) (c_draft_toldNets : Int32) (c_draft_nets : Int32) (c_draft_parts : Nat → Int32) (c_draft_names : Nat → Nat → Int64) (c_draft_pickTime : Nat → Int32) (c_draft_dropTime : Nat → Int32) (c_draft_contacts : Nat → Int32) (c_draft_makes : Nat → Int32) (c_draft_period : Nat → Int32) (c_draft_onTime : Nat → Int32) (c_draft_told : Nat → Int32) (c_draft_joined : Nat → Int32) (c_draft_netOf : Nat → Int32) (c_pinAt : Nat → Int32) (c_pinEnds : Nat → Int32) (c_pinWires : Nat → Int32) (f : Nat) (l : List TkT) (S : List StT), KX c_tokens_size c_tokens_kinds c_tokens_values c_at l → PA c_tokens_places → JB c_draft_joined → RS c_tokens_kinds c_tokens_values c_firstMany c_firstTwice c_pins c_wires c_draft_parts c_draft_names c_draft_pickTime c_draft_dropTime c_draft_contacts c_draft_makes c_draft_period c_draft_onTime c_pinAt c_pinEnds c_pinWires S (wtg l) → x1.toInt = S.length → S.length + l.length ≤ 4001 → l.length < f → 5000 < x1.toInt + n → Ok (f_X5_read_41 c_tokens_length c_tokens_text n x1 c_fault c_faultPlace c_firstMany c_firstTwice c_at c_nameAt c_number c_pins c_wires c_tokens_size c_tokens_kinds c_tokens_places c_tokens_values c_draft_toldNets c_draft_nets c_draft_parts c_draft_names c_draft_pickTime c_draft_dropTime c_draft_contacts c_draft_makes c_draft_period c_draft_onTime c_draft_told c_draft_joined c_draft_netOf c_pinAt c_pinEnds c_pinWires) (fun r => RP (getT (txt (pText f l) S)) (accT (txt (pText f l) S)) r.1 r.2.2.2.2.2.2.2.2.2.2.2.2.2.2.1 r.2.2.2.2.2.2.2.2.2.2.2.2.1 r.2.2.2.2.2.2.2.2.2.2.2.2.2.2.2.2.1 r.2.2.2.2.2.2.2.2.2.2.2.2.2.2.2.2.2.1 r.2.2.2.2.2.2.2.2.2.2.2.2.2.2.2.2.2.2.1 r.2.2.2.2.2.2.2.2.2.2.2.2.2.2.2.2.2.2.2.1 r.2.2.2.2.2.2.2.2.2.2.2.2.2.2.2.2.2.2.2.2.1 r.2.2.2.2.2.2.2.2.2.2.2.2.2.2.2.2.2.2.2.2.2.1 r.2.2.2.2.2.2.2.2.2.2.2.2.2.2.2.2.2.2.2.2.2.2.1 r.2.2.2.2.2.2.2.2.2.2.2.2.2.2.2.2.2.2.2.2.2.2.2.1)
  | 0, x1, c_fault, c_faultPlace, c_firstMany, c_firstTwice, c_at, c_nameAt, c_number, c_pins, c_wires, c_tokens_size, c_tokens_kinds, c_tokens_places, c_tokens_values, c_draft_toldNets, c_draft_nets, c_draft_parts, c_draft_names, c_draft_pickTime, c_draft_dropTime, c_draft_contacts, c_draft_makes, c_draft_period, c_draft_onTime, c_draft_told, c_draft_joined, c_draft_netOf, c_pinAt, c_pinEnds, c_pinWires, f, l, S, h, hPA, hJ, hR, g1, g2, g3, g4 => by exfalso; omega
  | n + 1, x1, c_fault, c_faultPlace, c_firstMany, c_firstTwice, c_at, c_nameAt, c_number, c_pins, c_wires, c_tokens_size, c_tokens_kinds, c_tokens_places, c_tokens_values, c_draft_toldNets, c_draft_nets, c_draft_parts, c_draft_names, c_draft_pickTime, c_draft_dropTime, c_draft_contacts, c_draft_makes, c_draft_period, c_draft_onTime, c_draft_told, c_draft_joined, c_draft_netOf, c_pinAt, c_pinEnds, c_pinWires, 0, l, S, h, hPA, hJ, hR, g1, g2, g3, g4 => absurd g3 (Nat.not_lt_zero _)
  | n + 1, x1, c_fault, c_faultPlace, c_firstMany, c_firstTwice, c_at, c_nameAt, c_number, c_pins, c_wires, c_tokens_size, c_tokens_kinds, c_tokens_places, c_tokens_values, c_draft_toldNets, c_draft_nets, c_draft_parts, c_draft_names, c_draft_pickTime, c_draft_dropTime, c_draft_contacts, c_draft_makes, c_draft_period, c_draft_onTime, c_draft_told, c_draft_joined, c_draft_netOf, c_pinAt, c_pinEnds, c_pinWires, f + 1, l, S, h, hPA, hJ, hR, g1, g2, g3, g4 => by
    unfold f_X5_read_41 pText
    obtain ⟨b1, b2, b3, b4, b5, b6⟩ := KX_hd h
    have lp : 1 ≤ l.length := by rw [b5]; simp
    refine ok_if (fun a => by exfalso; rw [tI_le, show (4001 : Int32).toInt = 4001 from by decide] at a; omega) (fun _ => ?_)
    refine ok_eq (e_kind _ _ _ c_tokens_values l h) ?_
    by_cases e : (hd l).1 = 0
    · rw [if_pos ((k_end b4).mpr e), if_pos e]
      exact s_read_96 _ _ _ _ _ _ _ _ _ _ _ _ _ _ _ _ _ _ _ _ _ _ _ _ _ _ _ _ _ _ _ S (wtg l) hPA hJ hR
    · rw [if_neg (fun q => e ((k_end b4).mp q)), if_neg e]
      have hsz := h.2.2.1
      have pl : PLc c_tokens_size c_tokens_places := fun i hi => hPA i (by omega)
      refine ok_bind (s_readStatement _ _ _ _ _ _ _ _ _ _ _ _ _ _ _ _ _ _ _ _ _ _ l h S (by omega) pl hR) (fun r2 hr => ?_)
      unfold pStmt
      cases hb : pBody l with
      | none =>
        rw [hb] at hr
        rw [if_pos hr.1]
        exact s_read_72 _ _ _ _ _ _ _ _ _ _ _ _ _ _ _ _ _ _ _ _ _ _ _ _ _ _ _ _ _ _ _ _ _ (fun q => q) ⟨hr.2.1, hr.2.2.1⟩ hPA hr.2.2.2
      | some y =>
        obtain ⟨st, rest⟩ := y
        rw [hb] at hr
        obtain ⟨z1, z2, z3⟩ := hr
        have hl := pBody_len hb
        rw [if_neg (by rw [z1]; decide)]
        refine ok_eq (e_pass _ _ _ _ c_tokens_values rest z2) ?_
        have hz := KX_hd z2
        dsimp only
        by_cases s : isSn rest 59 = true
        · obtain ⟨m1, m2, m3, m4⟩ := KX_next z2 (.inr (.inr (hd3 s)))
          have tl := @List.length_tail TkT rest
          rw [if_pos ((k_sn hz.2.2.2.1 59 (by decide)).mpr s), if_pos s, if_neg (n10 _)]
          have e1 : (x1 + 1).toInt = x1.toInt + 1 := by ((try simp only [tI_lt, tI_le, tI_eq, tI_add, tI_sub, tI_mul, tI_nat, Int32.reduceToInt, Int.reduceToNat, fe_0, fe_1, fe_2, fe_3, fe_4, fe_5]) <;> (try simp (disch := omega) only [tI_bm]) <;> omega)
          obtain ⟨w1, w2, w3, w4, w5, w6, w7⟩ := z3
          refine ok_vlet (ok_mono (s_read_41 c_tokens_length c_tokens_text hlen n _ _ _ _ _ _ _ _ _ _ _ _ _ _ _ _ _ _ _ _ _ _ _ _ _ _ _ _ _ _ f rest.tail (st :: S) m1 hPA hJ ⟨w1, w2, w3, w4, w5, w6, by omega⟩ (by rw [List.length_cons]; omega) (by rw [List.length_cons]; omega) (by omega) (by omega)) (fun r hr2 => ?_))
          dsimp only
          cases hp : pText f rest.tail with
          | none => rw [hp] at hr2; exact hr2
          | some ss =>
            rw [hp] at hr2
            have ee : txt (some (st :: ss)) S = txt (some ss) (st :: S) := by
              show some ((st :: ss).reverse ++ S) = some (ss.reverse ++ (st :: S))
              rw [List.reverse_cons, List.append_assoc]
              rfl
            dsimp only
            rw [ee]
            exact hr2
        · rw [if_neg (fun q => s ((k_sn hz.2.2.2.1 59 (by decide)).mp q)), if_neg s, if_pos (show ((0 : Int32), r2.2.2.2.1).1 = 0 from rfl)]
          exact s_read_72 _ _ _ _ _ _ _ _ _ _ _ _ _ _ _ _ _ _ _ _ _ _ _ _ _ _ _ _ _ _ _ _ _ (fun q => q) (KX_rng z2) hPA z3.2.2.1
/-! the tokens of a TEXT -/
def toksT (t : Nat → Int32) (L : Nat) : List TkT := (lend (lfold t L)).reverse
def stmtsT (t : Nat → Int32) (L : Nat) : Option (List StT) := txt (pText 4002 (toksT t L)) []
set_option maxHeartbeats 400000 in
theorem s_X5_read (c_fault : Int32) (c_faultPlace : Int32) (c_firstMany : Int32) (c_firstTwice : Int32) (c_at : Int32) (c_nameAt : Int32) (c_number : Int32) (c_pins : Int32) (c_wires : Int32) (c_tokens_length : Int32) (c_tokens_size : Int32) (c_tokens_text : Nat → Int32) (c_tokens_kinds : Nat → Int32) (c_tokens_places : Nat → Int32) (c_tokens_values : Nat → Int64) (c_draft_toldNets : Int32) (c_draft_nets : Int32) (c_draft_parts : Nat → Int32) (c_draft_names : Nat → Nat → Int64) (c_draft_pickTime : Nat → Int32) (c_draft_dropTime : Nat → Int32) (c_draft_contacts : Nat → Int32) (c_draft_makes : Nat → Int32) (c_draft_period : Nat → Int32) (c_draft_onTime : Nat → Int32) (c_draft_told : Nat → Int32) (c_draft_joined : Nat → Int32) (c_draft_netOf : Nat → Int32) (c_pinAt : Nat → Int32) (c_pinEnds : Nat → Int32) (c_pinWires : Nat → Int32) (hL : 0 ≤ c_tokens_length.toInt ∧ c_tokens_length.toInt ≤ 4000) (hPA : PA c_tokens_places) (hC : CB c_draft_contacts) : Ok (f_X5_read c_fault c_faultPlace c_firstMany c_firstTwice c_at c_nameAt c_number c_pins c_wires c_tokens_length c_tokens_size c_tokens_text c_tokens_kinds c_tokens_places c_tokens_values c_draft_toldNets c_draft_nets c_draft_parts c_draft_names c_draft_pickTime c_draft_dropTime c_draft_contacts c_draft_makes c_draft_period c_draft_onTime c_draft_told c_draft_joined c_draft_netOf c_pinAt c_pinEnds c_pinWires) (fun r => RP (getT (stmtsT c_tokens_text c_tokens_length.toInt.toNat)) (accT (stmtsT c_tokens_text c_tokens_length.toInt.toNat)) r.1 r.2.2.2.2.2.2.2.2.2.2.2.2.2.2.1 r.2.2.2.2.2.2.2.2.2.2.2.2.1 r.2.2.2.2.2.2.2.2.2.2.2.2.2.2.2.2.1 r.2.2.2.2.2.2.2.2.2.2.2.2.2.2.2.2.2.1 r.2.2.2.2.2.2.2.2.2.2.2.2.2.2.2.2.2.2.1 r.2.2.2.2.2.2.2.2.2.2.2.2.2.2.2.2.2.2.2.1 r.2.2.2.2.2.2.2.2.2.2.2.2.2.2.2.2.2.2.2.2.1 r.2.2.2.2.2.2.2.2.2.2.2.2.2.2.2.2.2.2.2.2.2.1 r.2.2.2.2.2.2.2.2.2.2.2.2.2.2.2.2.2.2.2.2.2.2.1 r.2.2.2.2.2.2.2.2.2.2.2.2.2.2.2.2.2.2.2.2.2.2.2.1) := by
  unfold f_X5_read stmtsT
  refine ok_bind (s_X3_clear _ _ _ _) (fun r1 h1 => ok_bind (s_X7_split _ _ _ _ _ _ hL hPA) (fun r2 h2 => ?_))
  obtain ⟨⟨x1, x2, x3⟩, x4⟩ := h2
  have tk := TKS_end c_tokens_text c_tokens_length.toInt.toNat
  have kx : KX r2.1 r2.2.1 r2.2.2.2 0 (toksT c_tokens_text c_tokens_length.toInt.toNat) := by
    refine ⟨by decide, ?_, x2, ?_, TKS_TG tk⟩
    · unfold toksT
      rw [List.length_reverse, show (0 : Int32).toInt = 0 from by decide]; omega
    · rw [show (0 : Int32).toInt.toNat = 0 from by decide]
      exact XT_RX _ _ _ x3
  have wt := TKS_wt tk
  have hlen : (toksT c_tokens_text c_tokens_length.toInt.toNat).length ≤ 4001 := by
    unfold toksT
    rw [List.length_reverse]; omega
  have z5 : (0 : Int32).toInt = ((0 : Nat) : Int) := by decide
  refine s_read_41 c_tokens_length c_tokens_text trivial FU 0 _ _ (-1) (-1) 0 _ _ 0 0 _ _ _ _ _ _ _ _ _ _ _ _ _ _ _ _ _ _ _ _ 4002 _ [] kx x4 (fun e he => ?_) ?_ z5 ?_ (by omega) (by rw [FU_eq]; decide)
  · have := (h1.2 e he).2.1
    omega
  · refine ⟨⟨fun s hs => ?_, .inl rfl, .inl ⟨rfl, rfl, rfl, fun s hs => ?_, trivial⟩⟩, fun _ => trivial, hC, z5, trivial, z5, ?_⟩
    · rw [h1.1 s hs]
      exact ⟨by decide, by rw [show (0 : Int32).toInt = 0 from by decide]; omega⟩
    · rw [h1.1 s hs]; exact z5
    · show 3 * 0 + wtg (toksT c_tokens_text c_tokens_length.toInt.toNat) ≤ 4000
      unfold toksT
      omega
  · show 0 + _ ≤ 4001
    omega
