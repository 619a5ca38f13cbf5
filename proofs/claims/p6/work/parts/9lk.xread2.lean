/-! the class's nets, told by the statements -/
set_option maxHeartbeats 400000 in
theorem nkS_or (i : Nat) : ∀ S : List StT, nkS S i = 0 ∨ ∃ a, AT 0 i a S ∧ nkS S i = nkd a
  | [] => .inl rfl
  | b :: r => by
    unfold nkS
    by_cases z : b.1 = 0 ∧ i = cnt 0 r
    · rw [if_pos z]
      exact .inr ⟨b, .inl ⟨z.1, z.2, rfl⟩, rfl⟩
    · rw [if_neg z]
      rcases nkS_or i r with q | ⟨a, q1, q2⟩
      · exact .inl q
      · exact .inr ⟨a, .inr q1, q2⟩
set_option maxHeartbeats 400000 in
theorem GS_nk {fM fT : Int32} {parts : Nat → Int32} {names : Nat → Nat → Int64} {cont : Nat → Int32} {S : List StT} (h : GS fM fT parts names cont S) : (∀ r, nkS S r ≤ 6) ∧ (∀ r, r < cnt 0 S → (cont r).toInt = nkS S r) ∧ cnt 0 S ≤ 40 ∧ cnt 1 S ≤ 24 ∧ cnt 2 S ≤ 24 ∧ cnt 3 S ≤ 4 ∧ cnt 4 S ≤ 24 := by
  obtain ⟨hok, hN, hB, hcnt, hP, hX⟩ := h
  obtain ⟨n0, n1, n2, n3, n4, n5⟩ := hN
  have c0 := hcnt 0 (by decide)
  have c1 := hcnt 1 (by decide)
  have c2 := hcnt 2 (by decide)
  have c3 := hcnt 3 (by decide)
  have c4 := hcnt 4 (by decide)
  refine ⟨fun r => ?_, fun r hr => ?_, by omega, by omega, by omega, by omega, by omega⟩
  · rcases nkS_or r S with q | ⟨a, q1, q2⟩
    · omega
    · have ar := (AT_in 0 r a S q1).2
      have e := hX r a q1
      have := n5 r (by omega)
      omega
  · obtain ⟨a, ha⟩ := AT_ex 0 S r hr
    rw [hX r a ha, nkS_at r a S ha]
def NETX (S : List StT) (toldNets nets : Int32) (told netOf : Nat → Int32) : Prop := ∃ T N : Nat, toldNets.toInt = T ∧ nets.toInt = N ∧ T ≤ N ∧ N ≤ 954 ∧ NXI N netOf (exS S) ∧ (∃ g, PRT (enS S) (pnsOf S) g ∧ ∀ e f, exS S e → exS S f → (nuX netOf e = nuX netOf f ↔ g e = g f)) ∧ (∀ e, exS S e → (nuX netOf e < T ↔ TLD (enS S) (pnsOf S) e)) ∧ (∀ u, u < T → ∃ e, exS S e ∧ nuX netOf e = u) ∧ TLA (enX S) (pnsOf S) told
set_option maxHeartbeats 400000 in
theorem exS_VIS {fM fT : Int32} {parts : Nat → Int32} {names : Nat → Nat → Int64} {cont : Nat → Int32} {S : List StT} (h : GS fM fT parts names cont S) (e : Nat) (he : exS S e) : e < 954 ∧ (VIS parts cont 5 0 ((e + 952) % 954) ∨ (e + 952) % 954 = 952 ∨ (e + 952) % 954 = 953) := by
  obtain ⟨k1, k2, m0, m1, m2, m3, m4⟩ := GS_nk h
  obtain ⟨hok, hN, hB, hcnt, hP, hX⟩ := h
  have kk : ∀ r, r < cnt 0 S → KKn cont 0 r = 2 + 3 * nkS S r := fun r hr => by
    unfold KKn
    rw [if_pos rfl, k2 r hr]; rfl
  refine ⟨exN_lt m0 m1 m2 m3 m4 k1 e he, ?_⟩
  have pr : ∀ t u, t < 5 → u < cnt t S → (u : Int) < (parts t).toInt := fun t u ht hu => by
    have := hcnt t ht; omega
  rcases he with he | ⟨r, k, a, b, c⟩ | ⟨i, k, a, b, c⟩ | ⟨i, k, a, b, c⟩ | ⟨i, k, a, b, c⟩ | ⟨i, k, a, b, c⟩
  · exact .inr (by omega)
  · have := k1 r
    refine .inl ⟨0, r, k, by decide, .inl (by decide), pr 0 r (by decide) a, by rw [kk r a]; exact b, ?_⟩
    show _ = 0 + 20 * r + k
    omega
  · refine .inl ⟨1, i, k, by decide, .inl (by decide), pr 1 i (by decide) a, b, ?_⟩
    show _ = 800 + 2 * i + k
    omega
  · refine .inl ⟨2, i, k, by decide, .inl (by decide), pr 2 i (by decide) a, b, ?_⟩
    show _ = 848 + 2 * i + k
    omega
  · refine .inl ⟨3, i, k, by decide, .inl (by decide), pr 3 i (by decide) a, b, ?_⟩
    show _ = 896 + 2 * i + k
    omega
  · refine .inl ⟨4, i, k, by decide, .inl (by decide), pr 4 i (by decide) a, b, ?_⟩
    show _ = 904 + 2 * i + k
    omega
set_option maxHeartbeats 400000 in
theorem TLD_turn {S : List StT} {Q : List QnT} (hQ : ∀ q ∈ Q, enS S q.1 q.2.1 < 954) (e : Nat) (he : e < 954) : TLD (enX S) Q ((e + 952) % 954) ↔ TLD (enS S) Q e := by
  constructor
  · rintro ⟨q, m1, m2⟩
    refine ⟨q, m1, ?_⟩
    have := hQ q m1
    have m2' : (enS S q.1 q.2.1 + 952) % 954 = (e + 952) % 954 := m2
    omega
  · rintro ⟨q, m1, m2⟩
    refine ⟨q, m1, ?_⟩
    show (enS S q.1 q.2.1 + 952) % 954 = (e + 952) % 954
    rw [m2]
set_option maxHeartbeats 400000 in
theorem NETX_of {fM fT : Int32} {parts : Nat → Int32} {names : Nat → Nat → Int64} {cont : Nat → Int32} {S : List StT} (h : GS fM fT parts names cont S) (hA : allPin S (pnsOf S)) {g : Nat → Nat} (hP : PRT (enX S) (pnsOf S) g) {r : Int32 × Int32 × (Nat → Int32) × (Nat → Int32)} (hr : NBE parts cont (enX S) (pnsOf S) g r) {told : Nat → Int32} (hT : TLA (enX S) (pnsOf S) told) : NETX S r.1 r.2.1 told r.2.2.2 := by
  obtain ⟨T, N, o, r1, r2, ⟨u1, u2, u3, u4, u5, u6⟩, r4, r5, r6, r7, r8⟩ := hr
  have hok := h.1
  have hQe : ∀ q ∈ pnsOf S, exS S (enS S q.1 q.2.1) := fun q hq => enS_ex hok (hA q hq)
  have hQ : ∀ q ∈ pnsOf S, enS S q.1 q.2.1 < 954 := fun q hq => (exS_VIS h _ (hQe q hq)).1
  have m9 : ∀ e : Nat, (e + 952) % 954 < 954 := fun e => Nat.mod_lt _ (by decide)
  have pn : ∀ e, exS S e → r.2.2.2 ((e + 952) % 954) ≠ -1 := fun e he => r4 _ (exS_VIS h e he).2 (m9 e)
  have pr : ∀ e, exS S e → 0 ≤ (r.2.2.2 ((e + 952) % 954)).toInt ∧ (r.2.2.2 ((e + 952) % 954)).toInt < N := fun e he => (u2 _ (m9 e)).resolve_left (pn e he)
  have nu : ∀ e f, exS S e → exS S f → (nuX r.2.2.2 e = nuX r.2.2.2 f ↔ r.2.2.2 ((e + 952) % 954) = r.2.2.2 ((f + 952) % 954)) := fun e f he hf => by
    unfold nuX
    have a := pr e he
    have b := pr f hf
    rw [tI_eq]
    omega
  refine ⟨T, N, r1, r2, u6, Nat.le_trans u5 (cnN_le _ _), fun e he => ⟨(exS_VIS h e he).1, pr e he⟩, ⟨_, PRT_turn hQ hP, fun e f he hf => ?_⟩, fun e he => ?_, fun u hu => ?_, hT⟩
  · rw [nu e f he hf]
    show _ ↔ g ((e + 952) % 954) = g ((f + 952) % 954)
    have le := m9 e
    have lf := m9 f
    have pe := pn e he
    have pf := pn f hf
    generalize (e + 952) % 954 = x at *
    generalize (f + 952) % 954 = y at *
    by_cases ox : o x = -1
    · have nt : ¬ TLD (enX S) (pnsOf S) x := fun q => ((r6 x le).mpr q) ox
      constructor
      · intro w; rw [u4 x y le lf ox pe w]
      · intro w
        rcases PRT_told hP x y le lf w with q | q
        · rw [q]
        · exact absurd q.1 nt
    · by_cases oy : o y = -1
      · have nt : ¬ TLD (enX S) (pnsOf S) y := fun q => ((r6 y lf).mpr q) oy
        constructor
        · intro w; rw [u4 y x lf le oy pf w.symm]
        · intro w
          rcases PRT_told hP x y le lf w with q | q
          · rw [q]
          · exact absurd q.2 nt
      · rw [u1 x le ox, u1 y lf oy]
        exact r7 x y le lf ((r6 x le).mp ox) ((r6 y lf).mp oy)
  · rw [← TLD_turn hQ e (exS_VIS h e he).1, ← r6 _ (m9 e)]
    unfold nuX
    have a := pr e he
    by_cases ox : o ((e + 952) % 954) = -1
    · have := u3 _ (m9 e) ox (pn e he)
      exact ⟨fun w => by omega, fun w => absurd ox w⟩
    · have b := (r5 _ (m9 e)).resolve_left ox
      rw [u1 _ (m9 e) ox]
      exact ⟨fun _ => ox, fun _ => by omega⟩
  · obtain ⟨x, x1, x2⟩ := r8 u hu
    have ox : o x ≠ -1 := fun q => by rw [q, l_m1] at x2; omega
    obtain ⟨q, m1, m2⟩ := (r6 x x1).mp ox
    refine ⟨enS S q.1 q.2.1, hQe q m1, ?_⟩
    unfold nuX
    have m2' : (enS S q.1 q.2.1 + 952) % 954 = x := m2
    rw [m2', u1 x x1 ox, x2]
    rfl
def CLR (told joined netOf : Nat → Int32) : Prop := ∀ e : Nat, e < 954 → told e = 0 ∧ (joined e).toInt = e ∧ netOf e = -1
set_option maxHeartbeats 400000 in
theorem cnr_0 (j : Nat → Nat) : ∀ k, (∀ e, e < k → j e = e) → cnr j k = 0
  | 0, _ => cnr_z j
  | k + 1, h => by
    rw [cnr_s]
    rw [cnr_0 j k (fun e he => h e (by omega)), if_pos (h k (by omega))]
set_option maxHeartbeats 400000 in
theorem FS_0 {told joined netOf : Nat → Int32} (h : CLR told joined netOf) : FS joined ∧ ∀ e, e < 954 → rho (jn joined) e = e := by
  have j0 : ∀ e, e < 954 → jn joined e = e := fun e he => by
    rw [jn_at he, (h e he).2.1]; rfl
  refine ⟨⟨fun e he => ?_, fun _ => 0, ?_, fun x hx => ⟨?_, fun w => absurd (j0 x hx) w, fun _ => rfl, Nat.zero_le _⟩⟩, fun e he => rho_n (j0 e he)⟩
  · have := (h e he).2.1; omega
  · rw [cnr_0 _ 954 j0]; decide
  · rw [j0 x hx]; exact hx
set_option maxHeartbeats 400000 in
theorem x_read_96 (c_tokens_length : Int32) (c_tokens_text : Nat → Int32) (c_fault : Int32) (c_faultPlace : Int32) (c_firstMany : Int32) (c_firstTwice : Int32) (c_at : Int32) (c_nameAt : Int32) (c_number : Int32) (c_pins : Int32) (c_wires : Int32) (c_tokens_size : Int32) (c_tokens_kinds : Nat → Int32) (c_tokens_places : Nat → Int32) (c_tokens_values : Nat → Int64) (c_draft_toldNets : Int32) (c_draft_nets : Int32) (c_draft_parts : Nat → Int32) (c_draft_names : Nat → Nat → Int64) (c_draft_pickTime : Nat → Int32) (c_draft_dropTime : Nat → Int32) (c_draft_contacts : Nat → Int32) (c_draft_makes : Nat → Int32) (c_draft_period : Nat → Int32) (c_draft_onTime : Nat → Int32) (c_draft_told : Nat → Int32) (c_draft_joined : Nat → Int32) (c_draft_netOf : Nat → Int32) (c_pinAt : Nat → Int32) (c_pinEnds : Nat → Int32) (c_pinWires : Nat → Int32) (S : List StT) (W : Nat) (hPA : PA c_tokens_places) (hR : RS c_tokens_kinds c_tokens_values c_firstMany c_firstTwice c_pins c_wires c_draft_parts c_draft_names c_draft_pickTime c_draft_dropTime c_draft_contacts c_draft_makes c_draft_period c_draft_onTime c_pinAt c_pinEnds c_pinWires S W) (hC0 : CLR c_draft_told c_draft_joined c_draft_netOf) (hok : okS S = true) : Pc (f_X5_read_96 c_tokens_length c_tokens_text c_fault c_faultPlace c_firstMany c_firstTwice c_at c_nameAt c_number c_pins c_wires c_tokens_size c_tokens_kinds c_tokens_places c_tokens_values c_draft_toldNets c_draft_nets c_draft_parts c_draft_names c_draft_pickTime c_draft_dropTime c_draft_contacts c_draft_makes c_draft_period c_draft_onTime c_draft_told c_draft_joined c_draft_netOf c_pinAt c_pinEnds c_pinWires) (fun r => r.1 = 1 → NETX S r.2.2.2.2.2.2.2.2.2.2.2.2.2.2.1 r.2.2.2.2.2.2.2.2.2.2.2.2.2.2.2.1 r.2.2.2.2.2.2.2.2.2.2.2.2.2.2.2.2.2.2.2.2.2.2.2.2.1 r.2.2.2.2.2.2.2.2.2.2.2.2.2.2.2.2.2.2.2.2.2.2.2.2.2.2.1) := by
  obtain ⟨⟨hB, hT, hD⟩, hN, hC, hP, hQ, hW, hw⟩ := hR
  have ns := NS_of hB hC
  unfold f_X5_read_96 f_X5_findEnds
  rcases hD with ⟨d1, d2, d3, d4, d5⟩ | ⟨d1, d2⟩
  · rw [if_pos d2]
    have nx := hN d1
    have hG : GS (-1) (-1) c_draft_parts c_draft_names c_draft_contacts S := ⟨d1, ns, hB, d4, d5, fun i a ha => (AT_NX _ _ _ _ _ _ i a S nx ha).2.2.1⟩
    have z0 : ((0 : Int32).toInt) = 0 := l_0
    refine pc_bind (pc_and (pc_ok (s_findEnds_ok c_firstTwice c_pins c_tokens_kinds c_tokens_places c_tokens_values c_draft_parts c_draft_names c_draft_contacts c_pinAt S (pnsOf S) c_pinEnds c_pinWires hG d3 hP (by omega) hQ hPA FU 0 c_pinEnds (by decide) (by rw [z0]; omega) (by rw [FU_eq, z0]; omega) (fun i hi => by rw [z0] at hi; omega) (fun i _ => rfl))) (x_findEnds_2 c_firstTwice c_pins c_tokens_kinds c_tokens_places c_tokens_values c_draft_parts c_draft_names c_draft_contacts c_pinAt S (pnsOf S) c_pinEnds c_pinWires hG hP (by omega) hQ hPA d3 FU 0 c_pinEnds (by decide) (by rw [z0]; omega) (fun i q hi => by rw [z0] at hi; omega) (fun i _ => rfl))) (fun r1 hr => ?_)
    obtain ⟨hr, hE⟩ := hr
    refine pc_if (fun g1 => ?_) (fun g1 => ?_)
    · have hA : allPin S (pnsOf S) := by
        rcases hr with ⟨-, q⟩ | ⟨q, -⟩
        · exact q
        · exact absurd g1 q
      obtain ⟨f1, f2⟩ := FS_0 hC0
      unfold f_X5_joinWires
      refine pc_bind (x_joinWires_2 (c_pins := c_pins) (c_pinEnds := r1.2) (c_pinWires := c_pinWires) (enX S) (pnsOf S) (SRT_pns S).1 hP (hE g1) (fun q hq => Nat.mod_lt _ (by decide)) (by omega) FU 0 c_draft_told c_draft_joined (pnsOf S) [] (List.append_nil _).symm (by decide) f1 (PRT_0 _ _ (fun e f he hf w => by rw [f2 e he, f2 f hf] at w; exact w)) (fun e he => .inr ⟨(hC0 e he).1, fun q => by obtain ⟨p, m, -⟩ := q; exact absurd m (List.not_mem_nil)⟩)) (fun r2 q2 => ?_)
      obtain ⟨j1, j2, j3⟩ := q2
      refine pc_bind (x_numberNets (c_toldNets := c_draft_toldNets) (c_nets := c_draft_nets) (c_parts := c_draft_parts) (c_contacts := c_draft_contacts) (c_told := r2.1) (c_joined := r2.2) (c_netOf := c_draft_netOf) ns (enX S) (pnsOf S) j1 j2 j3 (fun e he => (hC0 e he).2.2)) (fun r3 q3 => pc_some (fun _ => NETX_of hG hA j2 q3 j3))
    · refine pc_eq (a := (0, 3, r1.1)) rfl ?_
      rw [if_pos (show isB (0 : Int32) = true by decide)]
      exact pc_some (fun q => absurd q (by show ¬ (0 : Int32) = 1; decide))
  · rw [d1] at hok; exact absurd hok (by decide)
set_option maxHeartbeats 400000 in
theorem x_read_72 (c_tokens_length : Int32) (c_tokens_text : Nat → Int32) (c_fault : Int32) (c_faultPlace : Int32) (c_firstMany : Int32) (c_firstTwice : Int32) (c_at : Int32) (c_nameAt : Int32) (c_number : Int32) (c_pins : Int32) (c_wires : Int32) (c_tokens_size : Int32) (c_tokens_kinds : Nat → Int32) (c_tokens_places : Nat → Int32) (c_tokens_values : Nat → Int64) (c_draft_toldNets : Int32) (c_draft_nets : Int32) (c_draft_parts : Nat → Int32) (c_draft_names : Nat → Nat → Int64) (c_draft_pickTime : Nat → Int32) (c_draft_dropTime : Nat → Int32) (c_draft_contacts : Nat → Int32) (c_draft_makes : Nat → Int32) (c_draft_period : Nat → Int32) (c_draft_onTime : Nat → Int32) (c_draft_told : Nat → Int32) (c_draft_joined : Nat → Int32) (c_draft_netOf : Nat → Int32) (c_pinAt : Nat → Int32) (c_pinEnds : Nat → Int32) (c_pinWires : Nat → Int32) (S : List StT) : Pc (f_X5_read_72 c_tokens_length c_tokens_text c_fault c_faultPlace c_firstMany c_firstTwice c_at c_nameAt c_number c_pins c_wires c_tokens_size c_tokens_kinds c_tokens_places c_tokens_values c_draft_toldNets c_draft_nets c_draft_parts c_draft_names c_draft_pickTime c_draft_dropTime c_draft_contacts c_draft_makes c_draft_period c_draft_onTime c_draft_told c_draft_joined c_draft_netOf c_pinAt c_pinEnds c_pinWires) (fun r => r.1 = 1 → NETX S r.2.2.2.2.2.2.2.2.2.2.2.2.2.2.1 r.2.2.2.2.2.2.2.2.2.2.2.2.2.2.2.1 r.2.2.2.2.2.2.2.2.2.2.2.2.2.2.2.2.2.2.2.2.2.2.2.2.1 r.2.2.2.2.2.2.2.2.2.2.2.2.2.2.2.2.2.2.2.2.2.2.2.2.2.2.1) := by
  unfold f_X5_read_72
  refine pc_bad (fun _ => pc_eq (a := (0, 1, c_tokens_places c_at.toNatClampNeg)) rfl ?_)
  rw [if_pos (show isB (0 : Int32) = true by decide)]
  exact pc_some (fun q => absurd q (by show ¬ (0 : Int32) = 1; decide))
set_option maxHeartbeats 400000 in
theorem x_read_41 (c_tokens_length : Int32) (c_tokens_text : Nat → Int32) : ∀ (n : Nat) (x1 : Int32) (c_fault : Int32) (c_faultPlace : Int32) (c_firstMany : Int32) (c_firstTwice : Int32) (c_at : Int32) (c_nameAt : Int32) (c_number : Int32) (c_pins : Int32) (c_wires : Int32) (c_tokens_size : Int32) (c_tokens_kinds : Nat → Int32) (c_tokens_places : Nat → Int32) (c_tokens_values : Nat → Int64) (c_draft_toldNets : Int32) (c_draft_nets : Int32) (c_draft_parts : Nat → Int32) (c_draft_names : Nat → Nat → Int64) (c_draft_pickTime : Nat → Int32) (c_draft_dropTime : Nat → Int32) (c_draft_contacts : Nat → Int32) (c_draft_makes : Nat → Int32) (c_draft_period : Nat → Int32) (c_draft_onTime : Nat → Int32) (c_draft_told : Nat → Int32) (c_draft_joined : Nat → Int32) (c_draft_netOf : Nat → Int32) (c_pinAt : Nat → Int32) (c_pinEnds : Nat → Int32) (c_pinWires : Nat → Int32) (f : Nat) (l : List TkT) (S : List StT), KX c_tokens_size c_tokens_kinds c_tokens_values c_at l → PA c_tokens_places → CLR c_draft_told c_draft_joined c_draft_netOf → RS c_tokens_kinds c_tokens_values c_firstMany c_firstTwice c_pins c_wires c_draft_parts c_draft_names c_draft_pickTime c_draft_dropTime c_draft_contacts c_draft_makes c_draft_period c_draft_onTime c_pinAt c_pinEnds c_pinWires S (wtg l) → x1.toInt = S.length → S.length + l.length ≤ 4001 → l.length < f → okS (getT (txt (pText f l) S)) = true → Pc (f_X5_read_41 c_tokens_length c_tokens_text n x1 c_fault c_faultPlace c_firstMany c_firstTwice c_at c_nameAt c_number c_pins c_wires c_tokens_size c_tokens_kinds c_tokens_places c_tokens_values c_draft_toldNets c_draft_nets c_draft_parts c_draft_names c_draft_pickTime c_draft_dropTime c_draft_contacts c_draft_makes c_draft_period c_draft_onTime c_draft_told c_draft_joined c_draft_netOf c_pinAt c_pinEnds c_pinWires) (fun r => r.1 = 1 → NETX (getT (txt (pText f l) S)) r.2.2.2.2.2.2.2.2.2.2.2.2.2.2.1 r.2.2.2.2.2.2.2.2.2.2.2.2.2.2.2.1 r.2.2.2.2.2.2.2.2.2.2.2.2.2.2.2.2.2.2.2.2.2.2.2.2.1 r.2.2.2.2.2.2.2.2.2.2.2.2.2.2.2.2.2.2.2.2.2.2.2.2.2.2.1)
  | 0, x1, c_fault, c_faultPlace, c_firstMany, c_firstTwice, c_at, c_nameAt, c_number, c_pins, c_wires, c_tokens_size, c_tokens_kinds, c_tokens_places, c_tokens_values, c_draft_toldNets, c_draft_nets, c_draft_parts, c_draft_names, c_draft_pickTime, c_draft_dropTime, c_draft_contacts, c_draft_makes, c_draft_period, c_draft_onTime, c_draft_told, c_draft_joined, c_draft_netOf, c_pinAt, c_pinEnds, c_pinWires, f, l, S, h, hPA, hJ, hR, g1, g2, g3, g4 => pc_none
  | n + 1, x1, c_fault, c_faultPlace, c_firstMany, c_firstTwice, c_at, c_nameAt, c_number, c_pins, c_wires, c_tokens_size, c_tokens_kinds, c_tokens_places, c_tokens_values, c_draft_toldNets, c_draft_nets, c_draft_parts, c_draft_names, c_draft_pickTime, c_draft_dropTime, c_draft_contacts, c_draft_makes, c_draft_period, c_draft_onTime, c_draft_told, c_draft_joined, c_draft_netOf, c_pinAt, c_pinEnds, c_pinWires, 0, l, S, h, hPA, hJ, hR, g1, g2, g3, g4 => absurd g3 (Nat.not_lt_zero _)
  | n + 1, x1, c_fault, c_faultPlace, c_firstMany, c_firstTwice, c_at, c_nameAt, c_number, c_pins, c_wires, c_tokens_size, c_tokens_kinds, c_tokens_places, c_tokens_values, c_draft_toldNets, c_draft_nets, c_draft_parts, c_draft_names, c_draft_pickTime, c_draft_dropTime, c_draft_contacts, c_draft_makes, c_draft_period, c_draft_onTime, c_draft_told, c_draft_joined, c_draft_netOf, c_pinAt, c_pinEnds, c_pinWires, f + 1, l, S, h, hPA, hJ, hR, g1, g2, g3, g4 => by
    unfold f_X5_read_41
    unfold pText at g4 ⊢
    obtain ⟨b1, b2, b3, b4, b5, b6⟩ := KX_hd h
    have lp : 1 ≤ l.length := by rw [b5]; simp
    refine pc_if (fun a => by exfalso; rw [tI_le, l_4001] at a; omega) (fun _ => ?_)
    refine pc_eq (e_kind _ _ _ c_tokens_values l h) ?_
    by_cases e : (hd l).1 = 0
    · rw [if_pos ((k_end b4).mpr e)]
      rw [if_pos e] at g4 ⊢
      exact x_read_96 _ _ _ _ _ _ _ _ _ _ _ _ _ _ _ _ _ _ _ _ _ _ _ _ _ _ _ _ _ _ _ S (wtg l) hPA hR hJ g4
    · rw [if_neg (fun q => e ((k_end b4).mp q))]
      rw [if_neg e] at g4 ⊢
      have hsz := h.2.2.1
      have pl : PLc c_tokens_size c_tokens_places := fun i hi => hPA i (by omega)
      refine pc_bind (pc_ok (s_readStatement _ _ _ _ _ _ _ _ _ _ _ _ _ _ _ _ _ _ _ _ _ _ l h S (by omega) pl hR)) (fun r2 hr => ?_)
      unfold pStmt at g4 ⊢
      cases hb : pBody l with
      | none =>
        rw [hb] at hr
        rw [if_pos hr.1]
        exact x_read_72 _ _ _ _ _ _ _ _ _ _ _ _ _ _ _ _ _ _ _ _ _ _ _ _ _ _ _ _ _ _ _ _
      | some y =>
        obtain ⟨st, rest⟩ := y
        rw [hb] at hr g4
        obtain ⟨z1, z2, z3⟩ := hr
        have hl := pBody_len hb
        rw [if_neg (by rw [z1]; decide)]
        refine pc_eq (e_pass _ _ _ _ c_tokens_values rest z2) ?_
        have hz := KX_hd z2
        dsimp only at g4 ⊢
        by_cases s : isSn rest 59 = true
        · obtain ⟨m1, m2, m3, m4⟩ := KX_next z2 (.inr (.inr (hd3 s)))
          have tl := @List.length_tail TkT rest
          rw [if_pos s] at g4
          rw [if_pos ((k_sn hz.2.2.2.1 59 (by decide)).mpr s), if_pos s, if_neg (n10 _)]
          dsimp only at g4 ⊢
          have e1 : (x1 + 1).toInt = x1.toInt + 1 := by ((try simp only [tI_lt, tI_le, tI_eq, tI_add, tI_sub, tI_mul, tI_nat, Int32.reduceToInt, Int.reduceToNat, fe_0, fe_1, fe_2, fe_3, fe_4, fe_5]) <;> (try simp (disch := omega) only [tI_bm]) <;> omega)
          obtain ⟨w1, w2, w3, w4, w5, w6, w7⟩ := z3
          cases hp : pText f rest.tail with
          | none =>
            rw [hp] at g4
            refine pc_vlet (pc_mono (x_read_41 c_tokens_length c_tokens_text n _ _ _ _ _ _ _ _ _ _ _ _ _ _ _ _ _ _ _ _ _ _ _ _ _ _ _ _ _ _ f rest.tail (st :: S) m1 hPA hJ ⟨w1, w2, w3, w4, w5, w6, by omega⟩ (by rw [List.length_cons]; omega) (by rw [List.length_cons]; omega) (by omega) (by rw [hp]; rfl)) (fun r hr2 => ?_))
            rw [hp] at hr2
            exact hr2
          | some ss =>
            have ee : txt (some (st :: ss)) S = txt (some ss) (st :: S) := by
              show some ((st :: ss).reverse ++ S) = some (ss.reverse ++ (st :: S))
              rw [List.reverse_cons, List.append_assoc]
              rfl
            rw [hp] at g4
            dsimp only at g4 ⊢
            rw [ee] at g4 ⊢
            refine pc_vlet (pc_mono (x_read_41 c_tokens_length c_tokens_text n _ _ _ _ _ _ _ _ _ _ _ _ _ _ _ _ _ _ _ _ _ _ _ _ _ _ _ _ _ _ f rest.tail (st :: S) m1 hPA hJ ⟨w1, w2, w3, w4, w5, w6, by omega⟩ (by rw [List.length_cons]; omega) (by rw [List.length_cons]; omega) (by omega) (by rw [hp]; exact g4)) (fun r hr2 => ?_))
            rw [hp] at hr2
            exact hr2
        · rw [if_neg (fun q => s ((k_sn hz.2.2.2.1 59 (by decide)).mp q)), if_pos (show ((0 : Int32), r2.2.2.2.1).1 = 0 from rfl)]
          exact x_read_72 _ _ _ _ _ _ _ _ _ _ _ _ _ _ _ _ _ _ _ _ _ _ _ _ _ _ _ _ _ _ _ _
set_option maxHeartbeats 400000 in
theorem x_read (c_fault : Int32) (c_faultPlace : Int32) (c_firstMany : Int32) (c_firstTwice : Int32) (c_at : Int32) (c_nameAt : Int32) (c_number : Int32) (c_pins : Int32) (c_wires : Int32) (c_tokens_length : Int32) (c_tokens_size : Int32) (c_tokens_text : Nat → Int32) (c_tokens_kinds : Nat → Int32) (c_tokens_places : Nat → Int32) (c_tokens_values : Nat → Int64) (c_draft_toldNets : Int32) (c_draft_nets : Int32) (c_draft_parts : Nat → Int32) (c_draft_names : Nat → Nat → Int64) (c_draft_pickTime : Nat → Int32) (c_draft_dropTime : Nat → Int32) (c_draft_contacts : Nat → Int32) (c_draft_makes : Nat → Int32) (c_draft_period : Nat → Int32) (c_draft_onTime : Nat → Int32) (c_draft_told : Nat → Int32) (c_draft_joined : Nat → Int32) (c_draft_netOf : Nat → Int32) (c_pinAt : Nat → Int32) (c_pinEnds : Nat → Int32) (c_pinWires : Nat → Int32) (hL : 0 ≤ c_tokens_length.toInt ∧ c_tokens_length.toInt ≤ 4000) (hPA : PA c_tokens_places) (hC : CB c_draft_contacts) (hok : okS (getT (stmtsT c_tokens_text c_tokens_length.toInt.toNat)) = true) : Pc (f_X5_read c_fault c_faultPlace c_firstMany c_firstTwice c_at c_nameAt c_number c_pins c_wires c_tokens_length c_tokens_size c_tokens_text c_tokens_kinds c_tokens_places c_tokens_values c_draft_toldNets c_draft_nets c_draft_parts c_draft_names c_draft_pickTime c_draft_dropTime c_draft_contacts c_draft_makes c_draft_period c_draft_onTime c_draft_told c_draft_joined c_draft_netOf c_pinAt c_pinEnds c_pinWires) (fun r => r.1 = 1 → NETX (getT (stmtsT c_tokens_text c_tokens_length.toInt.toNat)) r.2.2.2.2.2.2.2.2.2.2.2.2.2.2.1 r.2.2.2.2.2.2.2.2.2.2.2.2.2.2.2.1 r.2.2.2.2.2.2.2.2.2.2.2.2.2.2.2.2.2.2.2.2.2.2.2.2.1 r.2.2.2.2.2.2.2.2.2.2.2.2.2.2.2.2.2.2.2.2.2.2.2.2.2.2.1) := by
  unfold f_X5_read
  unfold stmtsT at hok ⊢
  refine pc_bind (pc_ok (s_X3_clear _ _ _ _)) (fun r1 h1 => pc_bind (pc_ok (s_X7_split _ _ _ _ _ _ hL hPA)) (fun r2 h2 => ?_))
  obtain ⟨⟨x1, x2, x3⟩, x4⟩ := h2
  have tk := TKS_end c_tokens_text c_tokens_length.toInt.toNat
  have kx : KX r2.1 r2.2.1 r2.2.2.2 0 (toksT c_tokens_text c_tokens_length.toInt.toNat) := by
    refine ⟨by decide, ?_, x2, ?_, TKS_TG tk⟩
    · unfold toksT
      rw [List.length_reverse, l_0]; omega
    · rw [show (0 : Int32).toInt.toNat = 0 from by decide]
      exact XT_RX _ _ _ x3
  have wt := TKS_wt tk
  have hlen : (toksT c_tokens_text c_tokens_length.toInt.toNat).length ≤ 4001 := by
    unfold toksT
    rw [List.length_reverse]; omega
  have z5 : (0 : Int32).toInt = ((0 : Nat) : Int) := by decide
  refine x_read_41 c_tokens_length c_tokens_text FU 0 _ _ (-1) (-1) 0 _ _ 0 0 _ _ _ _ _ _ _ _ _ _ _ _ _ _ _ _ _ _ _ _ 4002 _ [] kx x4 h1.2 ?_ z5 ?_ (by omega) hok
  · refine ⟨⟨fun s hs => ?_, .inl rfl, .inl ⟨rfl, rfl, rfl, fun s hs => ?_, trivial⟩⟩, fun _ => trivial, hC, z5, trivial, z5, ?_⟩
    · rw [h1.1 s hs]
      exact ⟨by decide, by rw [l_0]; omega⟩
    · rw [h1.1 s hs]; exact z5
    · show 3 * 0 + wtg (toksT c_tokens_text c_tokens_length.toInt.toNat) ≤ 4000
      unfold toksT
      omega
  · show 0 + _ ≤ 4001
    omega
