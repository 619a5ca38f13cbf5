/-! the class's statements -/
def PLc (size : Int32) (places : Nat → Int32) : Prop := ∀ i : Nat, (i : Int) < size.toInt → 0 ≤ (places i).toInt
set_option maxHeartbeats 400000 in
theorem nm_val {size : Int32} {kd : Nat → Int32} {vl : Nat → Int64} {a : Int32} {l : List TkT} (h : KX size kd vl a l) (hn : isNm l = true) : vl a.toInt.toNat = Int64.ofNat (hd l).2.1 ∧ (hd l).2.1 < 9223372036854775808 ∧ 1 ≤ (hd l).2.1 := by
  obtain ⟨b1, b2, b3, b4, b5, b6⟩ := KX_hd h
  have nm := (isNm_t l).mp hn
  refine ⟨?_, ?_⟩
  · rcases b4 with q | q | q | q | q
    · exact q.2.2
    · omega
    · omega
    · omega
    · omega
  · rcases b6 with q | q | q
    · rcases q.1 with z | z | z
      · exact ⟨z.2.1, z.2.2.1⟩
      · omega
      · omega
    · omega
    · omega
set_option maxHeartbeats 400000 in
theorem s_readPlain (x1 : Int32) (c_firstMany : Int32) (c_firstTwice : Int32) (c_at : Int32) (c_nameAt : Int32) (c_tokens_size : Int32) (c_tokens_kinds : Nat → Int32) (c_tokens_places : Nat → Int32) (c_tokens_values : Nat → Int64) (c_draft_parts : Nat → Int32) (c_draft_names : Nat → Nat → Int64) (l : List TkT) (h : KX c_tokens_size c_tokens_kinds c_tokens_values c_at l) (S : List StT) (st : StT) (h1 : 0 ≤ x1.toInt) (h2 : x1.toInt < 5) (hst : st.1 = x1.toInt.toNat) (hnm : tnm st = (hd l).2.1) (hpl : PLc c_tokens_size c_tokens_places) (hD : DS c_firstMany c_firstTwice c_draft_parts c_draft_names S) : Ok (f_X5_readPlain x1 c_firstMany c_firstTwice c_at c_nameAt c_tokens_size c_tokens_kinds c_tokens_places c_tokens_values c_draft_parts c_draft_names) (fun r => (isNm l = false ∧ r.1 = 0 ∧ 0 ≤ r.2.2.2.1.toInt ∧ r.2.2.2.1.toInt < 4001) ∨ (isNm l = true ∧ r.1 = 1 ∧ KX c_tokens_size c_tokens_kinds c_tokens_values r.2.2.2.1 l.tail ∧ DS r.2.1 r.2.2.1 r.2.2.2.2.2.1 r.2.2.2.2.2.2 (st :: S))) := by
  have rg := KX_rng h
  unfold f_X5_readPlain
  refine ok_eq (e_passName _ _ _ _ c_tokens_values l h) ?_
  by_cases a : isNm l = true
  · have nm := (isNm_t l).mp a
    have nv := nm_val h a
    have hh := KX_hd h
    obtain ⟨n1, n2, n3, n4⟩ := KX_next h (.inl nm.1)
    rw [if_pos a, if_neg (n10 _)]
    refine ok_bind (s_declare _ _ _ _ _ _ _ _ S st h1 h2 hst rg (by rw [hnm]; exact nv.1) (by rw [hnm]; exact nv.2) (hpl _ (by show ((c_at.toInt.toNat : Nat) : Int) < _; omega)) hD) (fun r2 hr => ok_some (.inr ⟨a, rfl, n1, hr.1⟩))
  · have a' : isNm l = false := by
      cases q : isNm l with
      | false => rfl
      | true => exact absurd q a
    rw [if_neg a, if_pos (show ((0 : Int32), c_at, c_at).1 = 0 from rfl)]
    exact ok_some (.inl ⟨a', rfl, rg.1, rg.2⟩)
set_option maxHeartbeats 400000 in
theorem pK_ge : ∀ (f n b : Nat) (l : List TkT), n ≤ (pKinds f n b l).1 ∧ (pKinds f n b l).1 ≤ n + f ∧ (pKinds f n b l).2.2.length ≤ l.length
  | 0, n, b, l => ⟨Nat.le_refl _, Nat.le_refl _, Nat.le_refl _⟩
  | f + 1, n, b, l => by
    have t := @List.length_tail TkT l
    unfold pKinds
    split
    · have := pK_ge f (n + 1) b l.tail; omega
    · split
      · have := pK_ge f (n + 1) (b + 2 ^ n) l.tail; omega
      · exact ⟨Nat.le_refl _, by omega, Nat.le_refl _⟩
/-! a relay's kinds, and its numbers -/
def RelX (size : Int32) (kd : Nat → Int32) (vl : Nat → Int64) (w x1 x2 x3 : Int32) (parts pick drop cont makes : Nat → Int32) (nk bits : Nat) (rest : List TkT) (wt0 : Nat) (r1 at2 : Int32) (pick2 drop2 cont2 makes2 : Nat → Int32) : Prop := r1 = 1 ∧ KX size kd vl at2 rest ∧ wtg rest ≤ wt0 ∧ ((0 ≤ x1.toInt ∧ x1.toInt < (parts 0).toInt ∧ pick2 = upd pick x1.toInt.toNat x2 ∧ drop2 = upd drop x1.toInt.toNat x3 ∧ cont2 = upd cont x1.toInt.toNat (Int32.ofNat nk) ∧ makes2 = upd makes x1.toInt.toNat (Int32.ofNat bits)) ∨ (¬ (0 ≤ x1.toInt ∧ x1.toInt < (parts 0).toInt) ∧ cont2 = cont))
set_option maxHeartbeats 400000 in
theorem s_readRelay_55 (c_tokens_size : Int32) (c_tokens_kinds : Nat → Int32) (c_tokens_places : Nat → Int32) (c_tokens_values : Nat → Int64) (c_draft_parts : Nat → Int32) (hB : PB c_draft_parts) : ∀ (n : Nat) (x1 : Int32) (x2 : Int32) (x3 : Int32) (x4 : Int32) (x5 : Int32) (c_firstMany : Int32) (c_firstTwice : Int32) (c_at : Int32) (c_nameAt : Int32) (c_number : Int32) (c_draft_names : Nat → Nat → Int64) (c_draft_pickTime : Nat → Int32) (c_draft_dropTime : Nat → Int32) (c_draft_contacts : Nat → Int32) (c_draft_makes : Nat → Int32) (f m b : Nat) (l : List TkT), KX c_tokens_size c_tokens_kinds c_tokens_values c_at l → m + f = 6 → x5 = Int32.ofNat m → x4 = Int32.ofNat b → b < 2 ^ m → f < n → Ok (f_X5_readRelay_55 c_tokens_size c_tokens_kinds c_tokens_places c_tokens_values n x1 x2 x3 x4 x5 c_firstMany c_firstTwice c_at c_nameAt c_number c_draft_parts c_draft_names c_draft_pickTime c_draft_dropTime c_draft_contacts c_draft_makes) (fun r => r.2.1 = c_firstMany ∧ r.2.2.1 = c_firstTwice ∧ r.2.2.2.2.2.2.1 = c_draft_parts ∧ r.2.2.2.2.2.2.2.1 = c_draft_names ∧ RelX c_tokens_size c_tokens_kinds c_tokens_values 0 x1 x2 x3 c_draft_parts c_draft_pickTime c_draft_dropTime c_draft_contacts c_draft_makes (pKinds f m b l).1 (pKinds f m b l).2.1 (pKinds f m b l).2.2 (wtg l) r.1 r.2.2.2.1 r.2.2.2.2.2.2.2.2.1 r.2.2.2.2.2.2.2.2.2.1 r.2.2.2.2.2.2.2.2.2.2.1 r.2.2.2.2.2.2.2.2.2.2.2)
  | 0, x1, x2, x3, x4, x5, c_firstMany, c_firstTwice, c_at, c_nameAt, c_number, c_draft_names, c_draft_pickTime, c_draft_dropTime, c_draft_contacts, c_draft_makes, f, m, b, l, h, g1, g2, g3, g4, g5 => by exfalso; omega
  | n + 1, x1, x2, x3, x4, x5, c_firstMany, c_firstTwice, c_at, c_nameAt, c_number, c_draft_names, c_draft_pickTime, c_draft_dropTime, c_draft_contacts, c_draft_makes, f, m, b, l, h, g1, g2, g3, g4, g5 => by
    unfold f_X5_readRelay_55
    obtain ⟨b1, b2, b3, b4, b5, b6⟩ := KX_hd h
    have W := wc_eq
    have e5 : x5.toInt = m := by rw [g2]; exact Int32.toInt_ofNat_of_lt (by omega)
    have fin : ∀ (l' : List TkT), l' = l → Ok (f_X5_readRelay_114 c_tokens_size c_tokens_kinds c_tokens_places c_tokens_values x1 x2 x3 x4 x5 c_firstMany c_firstTwice c_at c_nameAt c_number c_draft_parts c_draft_names c_draft_pickTime c_draft_dropTime c_draft_contacts c_draft_makes) (fun r => r.2.1 = c_firstMany ∧ r.2.2.1 = c_firstTwice ∧ r.2.2.2.2.2.2.1 = c_draft_parts ∧ r.2.2.2.2.2.2.2.1 = c_draft_names ∧ RelX c_tokens_size c_tokens_kinds c_tokens_values 0 x1 x2 x3 c_draft_parts c_draft_pickTime c_draft_dropTime c_draft_contacts c_draft_makes m b l' (wtg l) r.1 r.2.2.2.1 r.2.2.2.2.2.2.2.2.1 r.2.2.2.2.2.2.2.2.2.1 r.2.2.2.2.2.2.2.2.2.2.1 r.2.2.2.2.2.2.2.2.2.2.2) := by
      intro l' hl
      subst hl
      unfold f_X5_readRelay_114
      refine ok_eq (e_setRelay _ _ _ _ _ _ _ _ _ _ hB) ?_
      by_cases a : 0 ≤ x1.toInt ∧ x1.toInt < (c_draft_parts 0).toInt
      · rw [if_pos a]
        exact ok_some ⟨rfl, rfl, rfl, rfl, rfl, h, Nat.le_refl _, .inl ⟨a.1, a.2, rfl, rfl, by rw [g2], by rw [g3]⟩⟩
      · rw [if_neg a]
        exact ok_some ⟨rfl, rfl, rfl, rfl, rfl, h, Nat.le_refl _, .inr ⟨a, rfl⟩⟩
    cases f with
    | zero =>
      refine ok_if (fun _ => fin l rfl) (fun a => ?_)
      exfalso
      rw [tI_le, show (6 : Int32).toInt = 6 from by decide] at a
      omega
    | succ f =>
      refine ok_if (fun a => by exfalso; rw [tI_le, show (6 : Int32).toInt = 6 from by decide] at a; omega) (fun _ => ?_)
      refine ok_eq (e_kind _ _ _ c_tokens_values l h) ?_
      have kb := k_wd b4 16 422826041707 (by decide) (fun u => (W u).2.2.2.2.1)
      have km := k_wd b4 17 1835101029 (by decide) (fun u => (W u).2.2.2.2.2.1)
      have p2 : 2 ^ (m + 1) = 2 ^ m * 2 := Nat.pow_succ ..
      unfold pKinds
      have e51 : x5 + 1 = Int32.ofNat (m + 1) := by
        apply Int32.toInt_inj.mp
        rw [Int32.toInt_ofNat_of_lt (show m + 1 < 2 ^ 31 by omega), tI_add, e5, show (1 : Int32).toInt = 1 from by decide]
        omega
      by_cases c1 : isWd l 422826041707 = true
      · obtain ⟨n1, n2, n3, n4⟩ := KX_next h (.inl (hd1 c1))
        rw [if_pos (kb.mpr c1), if_pos c1]
        unfold f_X5_readRelay_80 f_X5_readRelay_98
        refine ok_eq (e_kind _ _ _ c_tokens_values l h) ?_
        have nm : ¬ c_tokens_kinds c_at.toInt.toNat = 17 := by rw [kb.mpr c1]; decide
        rw [if_neg nm]
        refine ok_vlet (ok_vlet ?_)
        refine ok_mono (s_readRelay_55 c_tokens_size c_tokens_kinds c_tokens_places c_tokens_values c_draft_parts hB n _ _ _ _ _ _ _ _ _ _ _ _ _ _ _ f (m + 1) b l.tail n1 (by omega) e51 g3 (by omega) (by omega)) (fun r hr => ?_)
        obtain ⟨y1, y2, y3, y4, y5, y6, y7, y8⟩ := hr
        exact ⟨y1, y2, y3, y4, y5, y6, by omega, y8⟩
      · rw [if_neg (fun q => c1 (kb.mp q)), if_neg c1]
        refine ok_eq (e_kind _ _ _ c_tokens_values l h) ?_
        by_cases c2 : isWd l 1835101029 = true
        · obtain ⟨n1, n2, n3, n4⟩ := KX_next h (.inl (hd1 c2))
          rw [if_pos (km.mpr c2), if_pos c2]
          unfold f_X5_readRelay_80 f_X5_readRelay_98
          refine ok_eq (e_kind _ _ _ c_tokens_values l h) ?_
          rw [if_pos (km.mpr c2)]
          refine ok_vlet (ok_vlet (ok_vlet ?_))
          have hor : x4 ||| xshl 1 x5 = Int32.ofNat (b + 2 ^ m) := by
            rw [g2, g3]
            exact mk_or m (by omega) b g4
          refine ok_mono (s_readRelay_55 c_tokens_size c_tokens_kinds c_tokens_places c_tokens_values c_draft_parts hB n _ _ _ _ _ _ _ _ _ _ _ _ _ _ _ f (m + 1) (b + 2 ^ m) l.tail n1 (by omega) e51 hor (by omega) (by omega)) (fun r hr => ?_)
          obtain ⟨y1, y2, y3, y4, y5, y6, y7, y8⟩ := hr
          exact ⟨y1, y2, y3, y4, y5, y6, by omega, y8⟩
        · rw [if_neg (fun q => c2 (km.mp q)), if_neg c2]
          exact fin l rfl
