/-! the class's statements -/
def PLc (size : Int32) (places : Nat → Int32) : Prop := ∀ i : Nat, (i : Int) < size.toInt → 0 ≤ (places i).toInt
set_option maxHeartbeats 400000 in
theorem nm_val {size : Int32} {kd : Nat → Int32} {vl : Nat → Int64} {a : Int32} {l : List TkT} (h : KX size kd vl a l) (hn : isNm l = true) : vl a.toInt.toNat = Int64.ofNat (hd l).2.1 ∧ (hd l).2.1 < 9223372036854775808 ∧ 1 ≤ (hd l).2.1 := by
  obtain ⟨b1, b2, b3, b4, b5, b6⟩ := KX_hd h
  have nm := (isNm_t l).mp hn
  refine ⟨?_, ?_⟩
  · rcases b4 with q | q | q | q | q
    · exact q.2.2
    · omega
    · omega
    · omega
    · omega
  · rcases b6 with q | q | q
    · rcases q.1 with z | z | z
      · exact ⟨z.2.1, z.2.2.1⟩
      · omega
      · omega
    · omega
    · omega
set_option maxHeartbeats 400000 in
theorem s_readPlain (x1 : Int32) (c_firstMany : Int32) (c_firstTwice : Int32) (c_at : Int32) (c_nameAt : Int32) (c_tokens_size : Int32) (c_tokens_kinds : Nat → Int32) (c_tokens_places : Nat → Int32) (c_tokens_values : Nat → Int64) (c_draft_parts : Nat → Int32) (c_draft_names : Nat → Nat → Int64) (l : List TkT) (h : KX c_tokens_size c_tokens_kinds c_tokens_values c_at l) (S : List StT) (st : StT) (h1 : 0 ≤ x1.toInt) (h2 : x1.toInt < 5) (hst : st.1 = x1.toInt.toNat) (hnm : tnm st = (hd l).2.1) (hpl : PLc c_tokens_size c_tokens_places) (hD : DS c_firstMany c_firstTwice c_draft_parts c_draft_names S) : Ok (f_X5_readPlain x1 c_firstMany c_firstTwice c_at c_nameAt c_tokens_size c_tokens_kinds c_tokens_places c_tokens_values c_draft_parts c_draft_names) (fun r => (isNm l = false ∧ r.1 = 0 ∧ 0 ≤ r.2.2.2.1.toInt ∧ r.2.2.2.1.toInt < 4001) ∨ (isNm l = true ∧ r.1 = 1 ∧ KX c_tokens_size c_tokens_kinds c_tokens_values r.2.2.2.1 l.tail ∧ DS r.2.1 r.2.2.1 r.2.2.2.2.2.1 r.2.2.2.2.2.2 (st :: S))) := by
  have rg := KX_rng h
  unfold f_X5_readPlain
  refine ok_eq (e_passName _ _ _ _ c_tokens_values l h) ?_
  by_cases a : isNm l = true
  · have nm := (isNm_t l).mp a
    have nv := nm_val h a
    have hh := KX_hd h
    obtain ⟨n1, n2, n3, n4⟩ := KX_next h (.inl nm.1)
    rw [if_pos a, if_neg (n10 _)]
    refine ok_bind (s_declare _ _ _ _ _ _ _ _ S st h1 h2 hst rg (by rw [hnm]; exact nv.1) (by rw [hnm]; exact nv.2) (hpl _ (by show ((c_at.toInt.toNat : Nat) : Int) < _; omega)) hD) (fun r2 hr => ok_some (.inr ⟨a, rfl, n1, hr.1⟩))
  · have a' : isNm l = false := by
      cases q : isNm l with
      | false => rfl
      | true => exact absurd q a
    rw [if_neg a, if_pos (show ((0 : Int32), c_at, c_at).1 = 0 from rfl)]
    exact ok_some (.inl ⟨a', rfl, rg.1, rg.2⟩)
set_option maxHeartbeats 400000 in
theorem pK_ge : ∀ (f n b : Nat) (l : List TkT), n ≤ (pKinds f n b l).1 ∧ (pKinds f n b l).1 ≤ n + f ∧ (pKinds f n b l).2.2.length ≤ l.length
  | 0, n, b, l => ⟨Nat.le_refl _, Nat.le_refl _, Nat.le_refl _⟩
  | f + 1, n, b, l => by
    have t := @List.length_tail TkT l
    unfold pKinds
    split
    · have := pK_ge f (n + 1) b l.tail; omega
    · split
      · have := pK_ge f (n + 1) (b + 2 ^ n) l.tail; omega
      · exact ⟨Nat.le_refl _, by omega, Nat.le_refl _⟩
/-! a relay's kinds, and its numbers -/
def RelX (size : Int32) (kd : Nat → Int32) (vl : Nat → Int64) (w x1 x2 x3 : Int32) (parts pick drop cont makes : Nat → Int32) (nk bits : Nat) (rest : List TkT) (wt0 : Nat) (r1 at2 : Int32) (pick2 drop2 cont2 makes2 : Nat → Int32) : Prop := r1 = 1 ∧ KX size kd vl at2 rest ∧ wtg rest ≤ wt0 ∧ ((0 ≤ x1.toInt ∧ x1.toInt < (parts 0).toInt ∧ pick2 = upd pick x1.toInt.toNat x2 ∧ drop2 = upd drop x1.toInt.toNat x3 ∧ cont2 = upd cont x1.toInt.toNat (Int32.ofNat nk) ∧ makes2 = upd makes x1.toInt.toNat (Int32.ofNat bits)) ∨ (¬ (0 ≤ x1.toInt ∧ x1.toInt < (parts 0).toInt) ∧ cont2 = cont))
set_option maxHeartbeats 400000 in
theorem s_readRelay_55 (c_tokens_size : Int32) (c_tokens_kinds : Nat → Int32) (c_tokens_places : Nat → Int32) (c_tokens_values : Nat → Int64) (c_draft_parts : Nat → Int32) (hB : PB c_draft_parts) : ∀ (n : Nat) (x1 : Int32) (x2 : Int32) (x3 : Int32) (x4 : Int32) (x5 : Int32) (c_firstMany : Int32) (c_firstTwice : Int32) (c_at : Int32) (c_nameAt : Int32) (c_number : Int32) (c_draft_names : Nat → Nat → Int64) (c_draft_pickTime : Nat → Int32) (c_draft_dropTime : Nat → Int32) (c_draft_contacts : Nat → Int32) (c_draft_makes : Nat → Int32) (f m b : Nat) (l : List TkT), KX c_tokens_size c_tokens_kinds c_tokens_values c_at l → m + f = 6 → x5 = Int32.ofNat m → x4 = Int32.ofNat b → b < 2 ^ m → f < n → Ok (f_X5_readRelay_55 c_tokens_size c_tokens_kinds c_tokens_places c_tokens_values n x1 x2 x3 x4 x5 c_firstMany c_firstTwice c_at c_nameAt c_number c_draft_parts c_draft_names c_draft_pickTime c_draft_dropTime c_draft_contacts c_draft_makes) (fun r => r.2.1 = c_firstMany ∧ r.2.2.1 = c_firstTwice ∧ r.2.2.2.2.2.2.1 = c_draft_parts ∧ r.2.2.2.2.2.2.2.1 = c_draft_names ∧ RelX c_tokens_size c_tokens_kinds c_tokens_values 0 x1 x2 x3 c_draft_parts c_draft_pickTime c_draft_dropTime c_draft_contacts c_draft_makes (pKinds f m b l).1 (pKinds f m b l).2.1 (pKinds f m b l).2.2 (wtg l) r.1 r.2.2.2.1 r.2.2.2.2.2.2.2.2.1 r.2.2.2.2.2.2.2.2.2.1 r.2.2.2.2.2.2.2.2.2.2.1 r.2.2.2.2.2.2.2.2.2.2.2)
  | 0, x1, x2, x3, x4, x5, c_firstMany, c_firstTwice, c_at, c_nameAt, c_number, c_draft_names, c_draft_pickTime, c_draft_dropTime, c_draft_contacts, c_draft_makes, f, m, b, l, h, g1, g2, g3, g4, g5 => by exfalso; omega
  | n + 1, x1, x2, x3, x4, x5, c_firstMany, c_firstTwice, c_at, c_nameAt, c_number, c_draft_names, c_draft_pickTime, c_draft_dropTime, c_draft_contacts, c_draft_makes, f, m, b, l, h, g1, g2, g3, g4, g5 => by
    unfold f_X5_readRelay_55
    obtain ⟨b1, b2, b3, b4, b5, b6⟩ := KX_hd h
    have W := wc_eq
    have e5 : x5.toInt = m := by rw [g2]; exact Int32.toInt_ofNat_of_lt (by omega)
    have fin : ∀ (l' : List TkT), l' = l → Ok (f_X5_readRelay_114 c_tokens_size c_tokens_kinds c_tokens_places c_tokens_values x1 x2 x3 x4 x5 c_firstMany c_firstTwice c_at c_nameAt c_number c_draft_parts c_draft_names c_draft_pickTime c_draft_dropTime c_draft_contacts c_draft_makes) (fun r => r.2.1 = c_firstMany ∧ r.2.2.1 = c_firstTwice ∧ r.2.2.2.2.2.2.1 = c_draft_parts ∧ r.2.2.2.2.2.2.2.1 = c_draft_names ∧ RelX c_tokens_size c_tokens_kinds c_tokens_values 0 x1 x2 x3 c_draft_parts c_draft_pickTime c_draft_dropTime c_draft_contacts c_draft_makes m b l' (wtg l) r.1 r.2.2.2.1 r.2.2.2.2.2.2.2.2.1 r.2.2.2.2.2.2.2.2.2.1 r.2.2.2.2.2.2.2.2.2.2.1 r.2.2.2.2.2.2.2.2.2.2.2) := by
      intro l' hl
      subst hl
      unfold f_X5_readRelay_114
      refine ok_eq (e_setRelay _ _ _ _ _ _ _ _ _ _ hB) ?_
      by_cases a : 0 ≤ x1.toInt ∧ x1.toInt < (c_draft_parts 0).toInt
      · rw [if_pos a]
        exact ok_some ⟨rfl, rfl, rfl, rfl, rfl, h, Nat.le_refl _, .inl ⟨a.1, a.2, rfl, rfl, by rw [g2], by rw [g3]⟩⟩
      · rw [if_neg a]
        exact ok_some ⟨rfl, rfl, rfl, rfl, rfl, h, Nat.le_refl _, .inr ⟨a, rfl⟩⟩
    cases f with
    | zero =>
      refine ok_if (fun _ => fin l rfl) (fun a => ?_)
      exfalso
      rw [tI_le, show (6 : Int32).toInt = 6 from by decide] at a
      omega
    | succ f =>
      refine ok_if (fun a => by exfalso; rw [tI_le, show (6 : Int32).toInt = 6 from by decide] at a; omega) (fun _ => ?_)
      refine ok_eq (e_kind _ _ _ c_tokens_values l h) ?_
      have kb := k_wd b4 16 422826041707 (by decide) (fun u => (W u).2.2.2.2.1)
      have km := k_wd b4 17 1835101029 (by decide) (fun u => (W u).2.2.2.2.2.1)
      have p2 : 2 ^ (m + 1) = 2 ^ m * 2 := Nat.pow_succ ..
      unfold pKinds
      have e51 : x5 + 1 = Int32.ofNat (m + 1) := by
        apply Int32.toInt_inj.mp
        rw [Int32.toInt_ofNat_of_lt (show m + 1 < 2 ^ 31 by omega), tI_add, e5, show (1 : Int32).toInt = 1 from by decide]
        omega
      by_cases c1 : isWd l 422826041707 = true
      · obtain ⟨n1, n2, n3, n4⟩ := KX_next h (.inl (hd1 c1))
        rw [if_pos (kb.mpr c1), if_pos c1]
        unfold f_X5_readRelay_80 f_X5_readRelay_98
        refine ok_eq (e_kind _ _ _ c_tokens_values l h) ?_
        have nm : ¬ c_tokens_kinds c_at.toInt.toNat = 17 := by rw [kb.mpr c1]; decide
        rw [if_neg nm]
        refine ok_vlet (ok_vlet ?_)
        refine ok_mono (s_readRelay_55 c_tokens_size c_tokens_kinds c_tokens_places c_tokens_values c_draft_parts hB n _ _ _ _ _ _ _ _ _ _ _ _ _ _ _ f (m + 1) b l.tail n1 (by omega) e51 g3 (by omega) (by omega)) (fun r hr => ?_)
        obtain ⟨y1, y2, y3, y4, y5, y6, y7, y8⟩ := hr
        exact ⟨y1, y2, y3, y4, y5, y6, by omega, y8⟩
      · rw [if_neg (fun q => c1 (kb.mp q)), if_neg c1]
        refine ok_eq (e_kind _ _ _ c_tokens_values l h) ?_
        by_cases c2 : isWd l 1835101029 = true
        · obtain ⟨n1, n2, n3, n4⟩ := KX_next h (.inl (hd1 c2))
          rw [if_pos (km.mpr c2), if_pos c2]
          unfold f_X5_readRelay_80 f_X5_readRelay_98
          refine ok_eq (e_kind _ _ _ c_tokens_values l h) ?_
          rw [if_pos (km.mpr c2)]
          refine ok_vlet (ok_vlet (ok_vlet ?_))
          have hor : x4 ||| xshl 1 x5 = Int32.ofNat (b + 2 ^ m) := by
            rw [g2, g3]
            exact mk_or m (by omega) b g4
          refine ok_mono (s_readRelay_55 c_tokens_size c_tokens_kinds c_tokens_places c_tokens_values c_draft_parts hB n _ _ _ _ _ _ _ _ _ _ _ _ _ _ _ f (m + 1) (b + 2 ^ m) l.tail n1 (by omega) e51 hor (by omega) (by omega)) (fun r hr => ?_)
          obtain ⟨y1, y2, y3, y4, y5, y6, y7, y8⟩ := hr
          exact ⟨y1, y2, y3, y4, y5, y6, by omega, y8⟩
        · rw [if_neg (fun q => c2 (km.mp q)), if_neg c2]
          exact fin l rfl
def RelSt (l : List TkT) : StT := (0, (hd l).2.1, (hd l.tail).2.1, (hd l.tail.tail).2.1, (pKinds 6 0 0 l.tail.tail.tail).1, (pKinds 6 0 0 l.tail.tail.tail).2.1, [])
def ClkSt (l : List TkT) : StT := (3, (hd l).2.1, (hd l.tail).2.1, (hd l.tail.tail).2.1, 0, 0, [])
set_option maxHeartbeats 400000 in
theorem pK_bits : ∀ (f n b : Nat) (l : List TkT), b < 2 ^ n → n + f ≤ 6 → (pKinds f n b l).2.1 < 64
  | 0, n, b, l, h, hn => by
    have := Nat.pow_le_pow_right (n := 2) (by decide) (show n ≤ 6 by omega)
    show b < 64
    omega
  | f + 1, n, b, l, h, hn => by
    have p2 : 2 ^ (n + 1) = 2 ^ n * 2 := Nat.pow_succ ..
    unfold pKinds
    split
    · exact pK_bits f (n + 1) b l.tail (by omega) (by omega)
    · split
      · exact pK_bits f (n + 1) _ l.tail (by omega) (by omega)
      · have := Nat.pow_le_pow_right (n := 2) (by decide) (show n ≤ 6 by omega)
        show b < 64
        omega
set_option maxHeartbeats 400000 in
theorem s_readRelay (c_firstMany : Int32) (c_firstTwice : Int32) (c_at : Int32) (c_nameAt : Int32) (c_number : Int32) (c_tokens_size : Int32) (c_tokens_kinds : Nat → Int32) (c_tokens_places : Nat → Int32) (c_tokens_values : Nat → Int64) (c_draft_parts : Nat → Int32) (c_draft_names : Nat → Nat → Int64) (c_draft_pickTime : Nat → Int32) (c_draft_dropTime : Nat → Int32) (c_draft_contacts : Nat → Int32) (c_draft_makes : Nat → Int32) (c_per c_on : Nat → Int32) (l : List TkT) (h : KX c_tokens_size c_tokens_kinds c_tokens_values c_at l) (S : List StT) (hpl : PLc c_tokens_size c_tokens_places) (hD : DS c_firstMany c_firstTwice c_draft_parts c_draft_names S) (hN : okS S = true → NX c_draft_pickTime c_draft_dropTime c_draft_contacts c_draft_makes c_per c_on S) (hC : CB c_draft_contacts) : Ok (f_X5_readRelay c_firstMany c_firstTwice c_at c_nameAt c_number c_tokens_size c_tokens_kinds c_tokens_places c_tokens_values c_draft_parts c_draft_names c_draft_pickTime c_draft_dropTime c_draft_contacts c_draft_makes) (fun r => (¬ (isNm l = true ∧ isNr l.tail 1 20 = true ∧ isNr l.tail.tail 1 20 = true) ∧ r.1 = 0 ∧ 0 ≤ r.2.2.2.1.toInt ∧ r.2.2.2.1.toInt < 4001 ∧ CB r.2.2.2.2.2.2.2.2.2.2.1) ∨ ((isNm l = true ∧ isNr l.tail 1 20 = true ∧ isNr l.tail.tail 1 20 = true) ∧ r.1 = 1 ∧ KX c_tokens_size c_tokens_kinds c_tokens_values r.2.2.2.1 (pKinds 6 0 0 l.tail.tail.tail).2.2 ∧ wtg (pKinds 6 0 0 l.tail.tail.tail).2.2 ≤ wtg l ∧ DS r.2.1 r.2.2.1 r.2.2.2.2.2.2.1 r.2.2.2.2.2.2.2.1 (RelSt l :: S) ∧ (okS (RelSt l :: S) = true → NX r.2.2.2.2.2.2.2.2.1 r.2.2.2.2.2.2.2.2.2.1 r.2.2.2.2.2.2.2.2.2.2.1 r.2.2.2.2.2.2.2.2.2.2.2 c_per c_on (RelSt l :: S)) ∧ CB r.2.2.2.2.2.2.2.2.2.2.1)) := by
  have rg := KX_rng h
  unfold f_X5_readRelay
  refine ok_eq (e_passName _ _ _ _ c_tokens_values l h) ?_
  by_cases a : isNm l = true
  · have nm := (isNm_t l).mp a
    have nv := nm_val h a
    have hh := KX_hd h
    obtain ⟨n1, n2, n3, n4⟩ := KX_next h (.inl nm.1)
    rw [if_pos a, if_neg (n10 _)]
    refine ok_bind (s_declare (x1 := 0) (c_firstMany := c_firstMany) (c_firstTwice := c_firstTwice) (c_nameAt := c_at) (c_tokens_places := c_tokens_places) (c_tokens_values := c_tokens_values) (c_draft_parts := c_draft_parts) (c_draft_names := c_draft_names) S (RelSt l) (by decide) (by decide) rfl rg nv.1 nv.2 (hpl _ (by show ((c_at.toInt.toNat : Nat) : Int) < _; omega)) hD) (fun r2 hr => ?_)
    obtain ⟨d1, d2, d3⟩ := hr
    refine ok_eq (e_passNumber _ _ _ _ _ _ _ l.tail n1 1 20 (by decide) (by decide)) ?_
    have rg1 := KX_rng n1
    by_cases b : isNr l.tail 1 20 = true
    · have nb := (isNr_t _ _ _).mp b
      obtain ⟨m1, m2, m3, m4⟩ := KX_next n1 (.inr (.inl nb.1))
      rw [if_pos b, if_neg (n10 _)]
      refine ok_eq (e_passNumber _ _ _ _ _ _ _ l.tail.tail m1 1 20 (by decide) (by decide)) ?_
      have rg2 := KX_rng m1
      by_cases c : isNr l.tail.tail 1 20 = true
      · have nc := (isNr_t _ _ _).mp c
        obtain ⟨k1, k2, k3, k4⟩ := KX_next m1 (.inr (.inl nc.1))
        rw [if_pos c, if_neg (n10 _)]
        refine ok_mono (s_readRelay_55 c_tokens_size c_tokens_kinds c_tokens_places c_tokens_values r2.2.2.2.1 d1.1 FU _ _ _ _ _ _ _ _ _ _ _ _ _ _ _ 6 0 0 l.tail.tail.tail k1 rfl rfl rfl (by decide) (by rw [FU_eq]; decide)) (fun r hr => ?_)
        obtain ⟨y1, y2, y3, y4, y5, y6, y7, y8⟩ := hr
        have pk := pK_ge 6 0 0 l.tail.tail.tail
        have pkb := pK_bits 6 0 0 l.tail.tail.tail (by decide) (by decide)
        have enk : (Int32.ofNat (pKinds 6 0 0 l.tail.tail.tail).1).toInt = (pKinds 6 0 0 l.tail.tail.tail).1 := Int32.toInt_ofNat_of_lt (by omega)
        refine .inr ⟨⟨a, b, c⟩, y5, y6, by omega, by rw [y1, y2, y3, y4]; exact d1, fun ok => ?_, ?_⟩
        · have ok' : okS S = true := by
            have : (okS S && (decide (5 ≤ (RelSt l).1) || (!inN (tnm (RelSt l)) S && decide (cnt (RelSt l).1 S < mst (RelSt l).1)))) = true := ok
            rw [Bool.and_eq_true] at this
            exact this.1
          have e3 := d3 ok
          have e4 : (r2.2.2.2.1 0).toInt = cnt 0 S + 1 := by
            rcases d1.2.2 with z | z
            · have := z.2.2.2.1 0 (by decide)
              have z2 : cnt 0 (RelSt l :: S) = cnt 0 S + 1 := rfl
              omega
            · rw [ok] at z; exact absurd z.1 (by decide)
          have e5 : r2.1.toInt = cnt 0 S := e3
          rcases y8 with ⟨w1, w2, w3, w4, w5, w6⟩ | ⟨w1, -⟩
          · have en : r2.1.toInt.toNat = cnt 0 S := by omega
            rw [w3, w4, w5, w6, en]
            have lt0 : ∀ i, i < cnt 0 S → ¬ i = cnt 0 S := fun i hi => by omega
            refine ⟨⟨fun _ => ?_, fun q => absurd q (show ¬ (0 : Nat) = 3 by decide)⟩, NX_cg _ _ _ _ _ _ _ _ _ _ _ _ S (fun i hi => ⟨by rw [upd_at, if_neg (lt0 i hi)], by rw [upd_at, if_neg (lt0 i hi)], by rw [upd_at, if_neg (lt0 i hi)], by rw [upd_at, if_neg (lt0 i hi)]⟩) (fun i _ => ⟨rfl, rfl⟩) (hN ok')⟩
            rw [upd_at, upd_at, upd_at, upd_at, if_pos rfl, if_pos rfl, if_pos rfl, if_pos rfl]
            exact ⟨Int32.toInt_ofNat_of_lt (by omega), Int32.toInt_ofNat_of_lt (by omega), enk, Int32.toInt_ofNat_of_lt (by omega)⟩
          · exact absurd ⟨by omega, by omega⟩ w1
        · rcases y8 with ⟨w1, w2, w3, w4, w5, w6⟩ | ⟨w1, w2⟩
          · rw [w5]
            intro i hi
            rw [upd_at]
            split
            · omega
            · exact hC i hi
          · rw [w2]; exact hC
      · rw [if_neg c, if_pos (show ((0 : Int32), c_at + 1 + 1, Int32.ofNat (hd l.tail).2.1).1 = 0 from rfl)]
        exact ok_some (.inl ⟨fun q => c q.2.2, rfl, rg2.1, rg2.2, hC⟩)
    · rw [if_neg b, if_pos (show ((0 : Int32), c_at + 1, c_number).1 = 0 from rfl)]
      exact ok_some (.inl ⟨fun q => b q.2.1, rfl, rg1.1, rg1.2, hC⟩)
  · rw [if_neg a, if_pos (show ((0 : Int32), c_at, c_at).1 = 0 from rfl)]
    exact ok_some (.inl ⟨fun q => a q.1, rfl, rg.1, rg.2, hC⟩)
set_option maxHeartbeats 400000 in
theorem s_readClock (c_firstMany : Int32) (c_firstTwice : Int32) (c_at : Int32) (c_nameAt : Int32) (c_number : Int32) (c_tokens_size : Int32) (c_tokens_kinds : Nat → Int32) (c_tokens_places : Nat → Int32) (c_tokens_values : Nat → Int64) (c_draft_parts : Nat → Int32) (c_draft_names : Nat → Nat → Int64) (c_draft_period : Nat → Int32) (c_draft_onTime : Nat → Int32) (c_pick c_drop c_cont c_makes : Nat → Int32) (l : List TkT) (h : KX c_tokens_size c_tokens_kinds c_tokens_values c_at l) (S : List StT) (hpl : PLc c_tokens_size c_tokens_places) (hD : DS c_firstMany c_firstTwice c_draft_parts c_draft_names S) (hN : okS S = true → NX c_pick c_drop c_cont c_makes c_draft_period c_draft_onTime S) : Ok (f_X5_readClock c_firstMany c_firstTwice c_at c_nameAt c_number c_tokens_size c_tokens_kinds c_tokens_places c_tokens_values c_draft_parts c_draft_names c_draft_period c_draft_onTime) (fun r => (¬ (isNm l = true ∧ isNr l.tail 2 100 = true ∧ isNr l.tail.tail 1 ((hd l.tail).2.1 - 1) = true) ∧ r.1 = 0 ∧ 0 ≤ r.2.2.2.1.toInt ∧ r.2.2.2.1.toInt < 4001) ∨ ((isNm l = true ∧ isNr l.tail 2 100 = true ∧ isNr l.tail.tail 1 ((hd l.tail).2.1 - 1) = true) ∧ r.1 = 1 ∧ KX c_tokens_size c_tokens_kinds c_tokens_values r.2.2.2.1 l.tail.tail.tail ∧ wtg l.tail.tail.tail ≤ wtg l ∧ DS r.2.1 r.2.2.1 r.2.2.2.2.2.2.1 r.2.2.2.2.2.2.2.1 (ClkSt l :: S) ∧ (okS (ClkSt l :: S) = true → NX c_pick c_drop c_cont c_makes r.2.2.2.2.2.2.2.2.1 r.2.2.2.2.2.2.2.2.2 (ClkSt l :: S)))) := by
  have rg := KX_rng h
  unfold f_X5_readClock
  refine ok_eq (e_passName _ _ _ _ c_tokens_values l h) ?_
  by_cases a : isNm l = true
  · have nm := (isNm_t l).mp a
    have nv := nm_val h a
    have hh := KX_hd h
    obtain ⟨n1, n2, n3, n4⟩ := KX_next h (.inl nm.1)
    rw [if_pos a, if_neg (n10 _)]
    refine ok_bind (s_declare (x1 := 3) (c_firstMany := c_firstMany) (c_firstTwice := c_firstTwice) (c_nameAt := c_at) (c_tokens_places := c_tokens_places) (c_tokens_values := c_tokens_values) (c_draft_parts := c_draft_parts) (c_draft_names := c_draft_names) S (ClkSt l) (by decide) (by decide) (by show (3 : Nat) = (3 : Int32).toInt.toNat; decide) rg nv.1 nv.2 (hpl _ (by show ((c_at.toInt.toNat : Nat) : Int) < _; omega)) hD) (fun r2 hr => ?_)
    obtain ⟨d1, d2, d3⟩ := hr
    refine ok_eq (e_passNumber _ _ _ _ _ _ _ l.tail n1 2 100 (by decide) (by decide)) ?_
    have rg1 := KX_rng n1
    by_cases b : isNr l.tail 2 100 = true
    · have nb := (isNr_t _ _ _).mp b
      obtain ⟨m1, m2, m3, m4⟩ := KX_next n1 (.inr (.inl nb.1))
      rw [if_pos b, if_neg (n10 _)]
      have ehi : (Int32.ofNat (hd l.tail).2.1 - 1).toInt = (((hd l.tail).2.1 - 1 : Nat) : Int) := by
        rw [tI_sub, Int32.toInt_ofNat_of_lt (show (hd l.tail).2.1 < 2 ^ 31 by omega), show (1 : Int32).toInt = 1 from by decide]
        omega
      refine ok_eq (e_passNumber _ _ _ _ _ _ _ l.tail.tail m1 1 ((hd l.tail).2.1 - 1) (by decide) ehi) ?_
      have rg2 := KX_rng m1
      by_cases c : isNr l.tail.tail 1 ((hd l.tail).2.1 - 1) = true
      · have nc := (isNr_t _ _ _).mp c
        obtain ⟨k1, k2, k3, k4⟩ := KX_next m1 (.inr (.inl nc.1))
        rw [if_pos c, if_neg (n10 _)]
        refine ok_eq (e_setClock _ _ _ _ _ _ d1.1) ?_
        refine ok_some (.inr ⟨⟨a, b, c⟩, rfl, k1, by omega, d1, fun ok => ?_⟩)
        have ok' : okS S = true := by
          have : (okS S && (decide (5 ≤ (ClkSt l).1) || (!inN (tnm (ClkSt l)) S && decide (cnt (ClkSt l).1 S < mst (ClkSt l).1)))) = true := ok
          rw [Bool.and_eq_true] at this
          exact this.1
        have e5 : r2.1.toInt = cnt 3 S := d3 ok
        have e4 : (r2.2.2.2.1 3).toInt = cnt 3 S + 1 := by
          rcases d1.2.2 with z | z
          · have := z.2.2.2.1 3 (by decide)
            have z2 : cnt 3 (ClkSt l :: S) = cnt 3 S + 1 := rfl
            omega
          · rw [ok] at z; exact absurd z.1 (by decide)
        have en : r2.1.toInt.toNat = cnt 3 S := by omega
        dsimp only
        rw [if_pos ⟨by omega, by omega⟩, en]
        dsimp only
        have lt0 : ∀ i, i < cnt 3 S → ¬ i = cnt 3 S := fun i hi => by omega
        refine ⟨⟨fun q => absurd q (show ¬ (3 : Nat) = 0 by decide), fun _ => ?_⟩, NX_cg _ _ _ _ _ _ _ _ _ _ _ _ S (fun i _ => ⟨rfl, rfl, rfl, rfl⟩) (fun i hi => ⟨by rw [upd_at, if_neg (lt0 i hi)], by rw [upd_at, if_neg (lt0 i hi)]⟩) (hN ok')⟩
        rw [upd_at, upd_at, if_pos rfl, if_pos rfl]
        exact ⟨Int32.toInt_ofNat_of_lt (by omega), Int32.toInt_ofNat_of_lt (by omega)⟩
      · rw [if_neg c, if_pos (show ((0 : Int32), c_at + 1 + 1, Int32.ofNat (hd l.tail).2.1).1 = 0 from rfl)]
        exact ok_some (.inl ⟨fun q => c q.2.2, rfl, rg2.1, rg2.2⟩)
    · rw [if_neg b, if_pos (show ((0 : Int32), c_at + 1, c_number).1 = 0 from rfl)]
      exact ok_some (.inl ⟨fun q => b q.2.1, rfl, rg1.1, rg1.2⟩)
  · rw [if_neg a, if_pos (show ((0 : Int32), c_at, c_at).1 = 0 from rfl)]
    exact ok_some (.inl ⟨fun q => a q.1, rfl, rg.1, rg.2⟩)
/-! a statement -/
def RS (kd : Nat → Int32) (vl : Nat → Int64) (fM fT pins wires : Int32) (parts : Nat → Int32) (names : Nat → Nat → Int64) (pick drop cont makes per on_ pinAt pinEnds pinWires : Nat → Int32) (S : List StT) (W : Nat) : Prop := DS fM fT parts names S ∧ (okS S = true → NX pick drop cont makes per on_ S) ∧ CB cont ∧ pins.toInt = (pnsOf S).length ∧ QX kd vl pinAt pinEnds pinWires (pnsOf S) ∧ wires.toInt = cnt 5 S ∧ 3 * (pnsOf S).length + W ≤ 4000
set_option maxHeartbeats 400000 in
theorem DS_wire {fM fT : Int32} {parts : Nat → Int32} {names : Nat → Nat → Int64} {S : List StT} {st : StT} (h : DS fM fT parts names S) (hs : st.1 = 5) : DS fM fT parts names (st :: S) ∧ okS (st :: S) = okS S := by
  have ok : okS (st :: S) = okS S := by
    show (okS S && (decide (5 ≤ st.1) || _)) = _
    rw [decide_eq_true (show 5 ≤ st.1 by omega), Bool.true_or, Bool.and_true]
  refine ⟨⟨h.1, h.2.1, ?_⟩, ok⟩
  rw [ok]
  rcases h.2.2 with ⟨a, b, c, d, e⟩ | z
  · refine .inl ⟨a, b, c, fun s hs2 => ?_, ⟨fun q => by omega, e⟩⟩
    show _ = ((cnt s S + (if st.1 = s then 1 else 0) : Nat) : Int)
    rw [if_neg (by omega), d s hs2]; rfl
  · exact .inr z
set_option maxHeartbeats 400000 in
theorem NX_skip {pick drop cont makes per on_ : Nat → Int32} {S : List StT} {st : StT} (h : NX pick drop cont makes per on_ S) (h0 : st.1 ≠ 0) (h3 : st.1 ≠ 3) : NX pick drop cont makes per on_ (st :: S) := ⟨⟨fun q => absurd q h0, fun q => absurd q h3⟩, h⟩
set_option maxHeartbeats 400000 in
theorem okS_tl {st : StT} {S : List StT} (h : okS (st :: S) = true) : okS S = true := by
  have : (okS S && (decide (5 ≤ st.1) || (!inN (tnm st) S && decide (cnt st.1 S < mst st.1)))) = true := h
  rw [Bool.and_eq_true] at this
  exact this.1
set_option maxHeartbeats 400000 in
theorem cnt_le (s : Nat) : ∀ S : List StT, cnt s S ≤ S.length
  | [] => Nat.le_refl _
  | a :: r => by
    have := cnt_le s r
    show cnt s r + _ ≤ r.length + 1
    split <;> omega
set_option maxHeartbeats 400000 in
theorem s_readStatement (c_firstMany : Int32) (c_firstTwice : Int32) (c_at : Int32) (c_nameAt : Int32) (c_number : Int32) (c_pins : Int32) (c_wires : Int32) (c_tokens_size : Int32) (c_tokens_kinds : Nat → Int32) (c_tokens_places : Nat → Int32) (c_tokens_values : Nat → Int64) (c_draft_parts : Nat → Int32) (c_draft_names : Nat → Nat → Int64) (c_draft_pickTime : Nat → Int32) (c_draft_dropTime : Nat → Int32) (c_draft_contacts : Nat → Int32) (c_draft_makes : Nat → Int32) (c_draft_period : Nat → Int32) (c_draft_onTime : Nat → Int32) (c_pinAt : Nat → Int32) (c_pinEnds : Nat → Int32) (c_pinWires : Nat → Int32) (l : List TkT) (h : KX c_tokens_size c_tokens_kinds c_tokens_values c_at l) (S : List StT) (hS : S.length ≤ 5000) (hpl : PLc c_tokens_size c_tokens_places) (hR : RS c_tokens_kinds c_tokens_values c_firstMany c_firstTwice c_pins c_wires c_draft_parts c_draft_names c_draft_pickTime c_draft_dropTime c_draft_contacts c_draft_makes c_draft_period c_draft_onTime c_pinAt c_pinEnds c_pinWires S (wtg l)) : Ok (f_X5_readStatement c_firstMany c_firstTwice c_at c_nameAt c_number c_pins c_wires c_tokens_size c_tokens_kinds c_tokens_places c_tokens_values c_draft_parts c_draft_names c_draft_pickTime c_draft_dropTime c_draft_contacts c_draft_makes c_draft_period c_draft_onTime c_pinAt c_pinEnds c_pinWires) (fun r => match pBody l with
  | none => r.1 = 0 ∧ 0 ≤ r.2.2.2.1.toInt ∧ r.2.2.2.1.toInt < 4001 ∧ CB r.2.2.2.2.2.2.2.2.2.2.2.2.1
  | some (st, rest) => r.1 = 1 ∧ KX c_tokens_size c_tokens_kinds c_tokens_values r.2.2.2.1 rest ∧ RS c_tokens_kinds c_tokens_values r.2.1 r.2.2.1 r.2.2.2.2.2.2.1 r.2.2.2.2.2.2.2.1 r.2.2.2.2.2.2.2.2.1 r.2.2.2.2.2.2.2.2.2.1 r.2.2.2.2.2.2.2.2.2.2.1 r.2.2.2.2.2.2.2.2.2.2.2.1 r.2.2.2.2.2.2.2.2.2.2.2.2.1 r.2.2.2.2.2.2.2.2.2.2.2.2.2.1 r.2.2.2.2.2.2.2.2.2.2.2.2.2.2.1 r.2.2.2.2.2.2.2.2.2.2.2.2.2.2.2.1 r.2.2.2.2.2.2.2.2.2.2.2.2.2.2.2.2.1 r.2.2.2.2.2.2.2.2.2.2.2.2.2.2.2.2.2.1 r.2.2.2.2.2.2.2.2.2.2.2.2.2.2.2.2.2.2 (st :: S) (wtg rest)) := by
  obtain ⟨hD, hN, hC, hP, hQ, hW, hw⟩ := hR
  obtain ⟨b1, b2, b3, b4, b5, b6⟩ := KX_hd h
  have W := wc_eq
  have step : ∀ w, isWd l w = true → KX c_tokens_size c_tokens_kinds c_tokens_values (c_at + 1) l.tail ∧ wtg l.tail + (hd l).2.2 = wtg l ∧ TV (hd l) ∧ (c_at + 1).toInt = c_at.toInt + 1 := fun w hw => KX_next h (.inl (hd1 hw))
  unfold f_X5_readStatement pBody
  refine ok_eq (e_pass _ _ _ _ c_tokens_values l h) ?_
  have kw := k_wd b4 15 2003399269 (by decide) (fun u => (W u).1)
  by_cases c1 : isWd l 2003399269 = true
  · obtain ⟨n1, n2, n3, n4⟩ := step _ c1
    rw [if_pos (kw.mpr c1), if_pos c1, if_neg (n10 _)]
    have cl := cnt_le 5 S
    refine ok_bind (s_readWire _ _ _ _ _ _ _ _ _ _ _ l.tail n1 (cnt 5 S) hW (by omega) (pnsOf S) hP hQ (by omega)) (fun r16 hr => ?_)
    unfold WireX at hr
    cases hp : pPins 4002 l.tail with
    | none =>
      rw [hp] at hr
      rw [if_pos (show isB r16.1 = true by rw [hr.1]; decide)]
      exact ok_some ⟨hr.1, hr.2.1, hr.2.2, hC⟩
    | some y =>
      obtain ⟨ps, rest⟩ := y
      rw [hp] at hr
      obtain ⟨y1, y2, y3, y4, y5, y6⟩ := hr
      have ll : (pnsW (cnt 5 S + 1) ps ++ pnsOf S).length = ps.length + (pnsOf S).length := by
        unfold pnsW
        rw [List.length_append, List.length_reverse, List.length_map]
      have e2 : (c_pins + 2).toInt = c_pins.toInt + 2 := by ((try simp only [tI_lt, tI_le, tI_eq, tI_add, tI_sub, tI_mul, tI_nat, Int32.reduceToInt, Int.reduceToNat, fe_0, fe_1, fe_2, fe_3, fe_4, fe_5]) <;> (try simp (disch := omega) only [tI_bm]) <;> omega)
      dsimp only
      by_cases two : 2 ≤ ps.length
      · have r1 : r16.1 = 1 := by rw [y6, if_neg (by rw [tI_lt, e2]; omega)]
        rw [if_pos two, if_pos (show isB r16.1 = true by rw [r1]; decide)]
        have dw := DS_wire (st := (5, 0, 0, 0, 0, 0, ps)) hD rfl
        refine ok_some ⟨r1, y1, dw.1, fun ok => NX_skip (hN (okS_tl ok)) (show ¬ (5 : Nat) = 0 by decide) (show ¬ (5 : Nat) = 3 by decide), hC, y2, y3, ?_, y4⟩
        show r16.2.2.2.2.2.1.toInt = ((cnt 5 S + 1 : Nat) : Int)
        rw [y5]
        ((try simp only [tI_lt, tI_le, tI_eq, tI_add, tI_sub, tI_mul, tI_nat, Int32.reduceToInt, Int.reduceToNat, fe_0, fe_1, fe_2, fe_3, fe_4, fe_5]) <;> (try simp (disch := omega) only [tI_bm]) <;> omega)
      · have r1 : r16.1 = 0 := by rw [y6, if_pos (by rw [tI_lt, e2]; omega)]
        rw [if_neg two, if_pos (show isB r16.1 = true by rw [r1]; decide)]
        have rg := KX_rng y1
        exact ok_some ⟨r1, rg.1, rg.2, hC⟩
  rw [if_neg (fun q => c1 (kw.mp q)), if_neg c1, if_pos (show ((0 : Int32), c_at).1 = 0 from rfl)]
  refine ok_eq (e_pass _ _ _ _ c_tokens_values l h) ?_
  have kr := k_wd b4 10 491327873401 (by decide) (fun u => (W u).2.2.2.1)
  by_cases c2 : isWd l 491327873401 = true
  · obtain ⟨n1, n2, n3, n4⟩ := step _ c2
    rw [if_pos (kr.mpr c2), if_pos c2, if_neg (n10 _)]
    refine ok_bind (s_readRelay _ _ _ _ _ _ _ _ _ _ _ _ _ _ _ c_draft_period c_draft_onTime l.tail n1 S hpl hD hN hC) (fun r14 hr => ?_)
    rcases hr with ⟨y1, y2, y3, y4, y5⟩ | ⟨⟨y1, y2, y3⟩, y4, y5, y6, y7, y8, y9⟩
    · rw [if_pos (show isB r14.1 = true by rw [y2]; decide)]
      refine ok_some ?_
      by_cases a : isNm l.tail = true
      · rw [if_pos a]
        by_cases b : isNr l.tail.tail 1 20 = true
        · rw [if_pos b, if_neg (fun q => y1 ⟨a, b, q⟩)]
          exact ⟨y2, y3, y4, y5⟩
        · rw [if_neg b]; exact ⟨y2, y3, y4, y5⟩
      · rw [if_neg a]; exact ⟨y2, y3, y4, y5⟩
    · rw [if_pos (show isB r14.1 = true by rw [y4]; decide), if_pos y1, if_pos y2, if_pos y3]
      exact ok_some ⟨y4, y5, y7, y8, y9, hP, hQ, hW, by show 3 * (pnsOf S).length + _ ≤ 4000; omega⟩
  rw [if_neg (fun q => c2 (kr.mp q)), if_neg c2, if_pos (show ((0 : Int32), c_at).1 = 0 from rfl)]
  have plain : ∀ (w c : Int32) (s v : Nat) (hs : s = 1 ∨ s = 2 ∨ s = 4) (hx : w.toInt = s) (cw : isWd l v = true), Ok (((f_X5_readPlain w c_firstMany c_firstTwice (c_at + 1) c_nameAt c_tokens_size c_tokens_kinds c_tokens_places c_tokens_values c_draft_parts c_draft_names)).bind fun r8 => if isB r8.1 = true then some (r8.1, r8.2.1, r8.2.2.1, r8.2.2.2.1, r8.2.2.2.2.1, c_number, c_pins, c_wires, r8.2.2.2.2.2.1, r8.2.2.2.2.2.2, c_draft_pickTime, c_draft_dropTime, c_draft_contacts, c_draft_makes, c_draft_period, c_draft_onTime, c_pinAt, c_pinEnds, c_pinWires) else none) (fun r => match (if isNm l.tail = true then some ((s, (hd l.tail).2.1, 0, 0, 0, 0, []), l.tail.tail) else none : Option (StT × List TkT)) with
    | none => r.1 = 0 ∧ 0 ≤ r.2.2.2.1.toInt ∧ r.2.2.2.1.toInt < 4001 ∧ CB r.2.2.2.2.2.2.2.2.2.2.2.2.1
    | some (st, rest) => r.1 = 1 ∧ KX c_tokens_size c_tokens_kinds c_tokens_values r.2.2.2.1 rest ∧ RS c_tokens_kinds c_tokens_values r.2.1 r.2.2.1 r.2.2.2.2.2.2.1 r.2.2.2.2.2.2.2.1 r.2.2.2.2.2.2.2.2.1 r.2.2.2.2.2.2.2.2.2.1 r.2.2.2.2.2.2.2.2.2.2.1 r.2.2.2.2.2.2.2.2.2.2.2.1 r.2.2.2.2.2.2.2.2.2.2.2.2.1 r.2.2.2.2.2.2.2.2.2.2.2.2.2.1 r.2.2.2.2.2.2.2.2.2.2.2.2.2.2.1 r.2.2.2.2.2.2.2.2.2.2.2.2.2.2.2.1 r.2.2.2.2.2.2.2.2.2.2.2.2.2.2.2.2.1 r.2.2.2.2.2.2.2.2.2.2.2.2.2.2.2.2.2.1 r.2.2.2.2.2.2.2.2.2.2.2.2.2.2.2.2.2.2 (st :: S) (wtg rest)) := by
    intro w c s v hs hx cw
    obtain ⟨n1, n2, n3, n4⟩ := step _ cw
    refine ok_bind (s_readPlain (x1 := w) (c_firstMany := c_firstMany) (c_firstTwice := c_firstTwice) (c_at := c_at + 1) (c_nameAt := c_nameAt) (c_tokens_size := c_tokens_size) (c_tokens_kinds := c_tokens_kinds) (c_tokens_places := c_tokens_places) (c_tokens_values := c_tokens_values) (c_draft_parts := c_draft_parts) (c_draft_names := c_draft_names) l.tail n1 S (s, (hd l.tail).2.1, 0, 0, 0, 0, []) (by omega) (by omega) (by show s = _; omega) rfl hpl hD) (fun r8 hr => ?_)
    rcases hr with ⟨y1, y2, y3, y4⟩ | ⟨y1, y2, y3, y4⟩
    · rw [if_pos (show isB r8.1 = true by rw [y2]; decide), y1, if_neg (by decide)]
      exact ok_some ⟨y2, y3, y4, hC⟩
    · rw [if_pos (show isB r8.1 = true by rw [y2]; decide), if_pos y1]
      have k := KX_next n1 (.inl ((isNm_t _).mp y1).1)
      refine ok_some ⟨y2, y3, y4, fun ok => NX_skip (hN (okS_tl ok)) (show ¬ s = 0 by omega) (show ¬ s = 3 by omega), hC, hP, hQ, ?_, by show 3 * (pnsOf S).length + _ ≤ 4000; omega⟩
      show c_wires.toInt = ((cnt 5 S + (if s = 5 then 1 else 0) : Nat) : Int)
      rw [if_neg (by omega), hW]; rfl
  refine ok_eq (e_pass _ _ _ _ c_tokens_values l h) ?_
  have kk := k_wd b4 11 7038329 (by decide) (fun u => (W u).2.2.2.2.2.2.1)
  by_cases c3 : isWd l 7038329 = true
  · rw [if_pos (kk.mpr c3), if_pos c3, if_neg (n10 _)]
    exact plain 1 0 1 _ (.inl rfl) (by decide) c3
  rw [if_neg (fun q => c3 (kk.mp q)), if_neg c3, if_pos (show ((0 : Int32), c_at).1 = 0 from rfl)]
  refine ok_eq (e_pass _ _ _ _ c_tokens_values l h) ?_
  have kl := k_wd b4 12 1818324336 (by decide) (fun u => (W u).2.2.2.2.2.2.2.1)
  by_cases c4 : isWd l 1818324336 = true
  · rw [if_pos (kl.mpr c4), if_pos c4, if_neg (n10 _)]
    exact plain 2 0 2 _ (.inr (.inl rfl)) (by decide) c4
  rw [if_neg (fun q => c4 (kl.mp q)), if_neg c4, if_pos (show ((0 : Int32), c_at).1 = 0 from rfl)]
  refine ok_eq (e_pass _ _ _ _ c_tokens_values l h) ?_
  have kd := k_wd b4 14 431265637477 (by decide) (fun u => (W u).2.2.2.2.2.2.2.2.2.1)
  by_cases c5 : isWd l 431265637477 = true
  · rw [if_pos (kd.mpr c5), if_pos c5, if_neg (n10 _)]
    exact plain 4 0 4 _ (.inr (.inr rfl)) (by decide) c5
  rw [if_neg (fun q => c5 (kd.mp q)), if_neg c5, if_pos (show ((0 : Int32), c_at).1 = 0 from rfl)]
  refine ok_eq (e_pass _ _ _ _ c_tokens_values l h) ?_
  have kc := k_wd b4 13 427021001579 (by decide) (fun u => (W u).2.2.2.2.2.2.2.2.1)
  by_cases c6 : isWd l 427021001579 = true
  · obtain ⟨n1, n2, n3, n4⟩ := step _ c6
    rw [if_pos (kc.mpr c6), if_pos c6, if_neg (n10 _)]
    refine ok_bind (s_readClock _ _ _ _ _ _ _ _ _ _ _ _ _ c_draft_pickTime c_draft_dropTime c_draft_contacts c_draft_makes l.tail n1 S hpl hD hN) (fun r7 hr => ?_)
    rcases hr with ⟨y1, y2, y3, y4⟩ | ⟨⟨y1, y2, y3⟩, y4, y5, y6, y7, y8⟩
    · rw [if_pos y2]
      refine ok_some ?_
      by_cases a : isNm l.tail = true
      · rw [if_pos a]
        by_cases b : isNr l.tail.tail 2 100 = true
        · rw [if_pos b, if_neg (fun q => y1 ⟨a, b, q⟩)]
          exact ⟨rfl, y3, y4, hC⟩
        · rw [if_neg b]; exact ⟨rfl, y3, y4, hC⟩
      · rw [if_neg a]; exact ⟨rfl, y3, y4, hC⟩
    · rw [if_neg (by rw [y4]; decide), if_pos y1, if_pos y2, if_pos y3]
      exact ok_some ⟨rfl, y5, y7, y8, hC, hP, hQ, hW, by show 3 * (pnsOf S).length + _ ≤ 4000; omega⟩
  rw [if_neg (fun q => c6 (kc.mp q)), if_neg c6, if_pos (show ((0 : Int32), c_at).1 = 0 from rfl)]
  exact ok_some ⟨rfl, b2, b3, hC⟩
