/-! whether a PIN means an end -/
def lk (v : Nat) : List StT → Option StT
  | [] => none
  | a :: r => if a.1 < 5 ∧ tnm a = v then some a else lk v r
def nkd (a : StT) : Nat := a.2.2.2.2.1
def okPin (S : List StT) (v c : Nat) : Bool := if v = 0 then decide (c ≤ 1) else match lk v S with
  | none => false
  | some a => if a.1 = 0 then decide (c < 2 + 3 * nkd a) else (decide (c = 2) || decide (c = 5))
def AT (s i : Nat) (a : StT) : List StT → Prop
  | [] => False
  | b :: r => (b.1 = s ∧ i = cnt s r ∧ a = b) ∨ AT s i a r
set_option maxHeartbeats 400000 in
theorem AT_ex (s : Nat) : ∀ (S : List StT) (i : Nat), i < cnt s S → ∃ a, AT s i a S
  | [], i, h => absurd h (Nat.not_lt_zero _)
  | b :: r, i, h => by
    have h' : i < cnt s r + (if b.1 = s then 1 else 0) := h
    by_cases q : i < cnt s r
    · obtain ⟨a, ha⟩ := AT_ex s r i q
      exact ⟨a, .inr ha⟩
    · by_cases e : b.1 = s
      · rw [if_pos e] at h'
        exact ⟨b, .inl ⟨e, by omega, rfl⟩⟩
      · rw [if_neg e] at h'; omega
set_option maxHeartbeats 400000 in
theorem AT_in (s i : Nat) (a : StT) : ∀ S : List StT, AT s i a S → a.1 = s ∧ i < cnt s S
  | [], h => absurd h (fun q => q)
  | b :: r, h => by
    show a.1 = s ∧ i < cnt s r + (if b.1 = s then 1 else 0)
    rcases h with ⟨h1, h2, h3⟩ | h
    · rw [h3, if_pos h1]; exact ⟨h1, by omega⟩
    · have := AT_in s i a r h
      exact ⟨this.1, by omega⟩
set_option maxHeartbeats 400000 in
theorem AT_PN (names : Nat → Nat → Int64) (s i : Nat) (a : StT) (hs : s < 5) : ∀ S : List StT, PN names S → AT s i a S → names s i = Int64.ofNat (tnm a) ∧ tnm a < 9223372036854775808
  | [], _, h => absurd h (fun q => q)
  | b :: r, hp, h => by
    rcases h with ⟨h1, h2, h3⟩ | h
    · have := hp.1 (by omega)
      rw [h3, h2, ← h1]
      exact ⟨this.1, this.2.1⟩
    · exact AT_PN names s i a hs r hp.2 h
set_option maxHeartbeats 400000 in
theorem AT_NX (pick drop cont makes per on_ : Nat → Int32) (i : Nat) (a : StT) : ∀ S : List StT, NX pick drop cont makes per on_ S → AT 0 i a S → (pick i).toInt = a.2.2.1 ∧ (drop i).toInt = a.2.2.2.1 ∧ (cont i).toInt = nkd a ∧ (makes i).toInt = a.2.2.2.2.2.1
  | [], _, h => absurd h (fun q => q)
  | b :: r, hp, h => by
    rcases h with ⟨h1, h2, h3⟩ | h
    · rw [h3, h2]
      exact hp.1.1 h1
    · exact AT_NX pick drop cont makes per on_ i a r hp.2 h
set_option maxHeartbeats 400000 in
theorem AT_inN (s i : Nat) (a : StT) (hs : s < 5) : ∀ S : List StT, AT s i a S → inN (tnm a) S = true
  | [], h => absurd h (fun q => q)
  | b :: r, h => by
    show ((decide (b.1 < 5) && decide (tnm b = tnm a)) || inN (tnm a) r) = true
    rcases h with ⟨h1, h2, h3⟩ | h
    · rw [h3, decide_eq_true (show b.1 < 5 by omega), decide_eq_true (rfl : tnm b = tnm b)]; rfl
    · rw [AT_inN s i a hs r h, Bool.or_true]
set_option maxHeartbeats 400000 in
theorem AT_lk (s i : Nat) (a : StT) (hs : s < 5) : ∀ S : List StT, okS S = true → AT s i a S → lk (tnm a) S = some a
  | [], _, h => absurd h (fun q => q)
  | b :: r, hk, h => by
    have hk' : (okS r && (decide (5 ≤ b.1) || (!inN (tnm b) r && decide (cnt b.1 r < mst b.1)))) = true := hk
    rw [Bool.and_eq_true, Bool.or_eq_true, Bool.and_eq_true, decide_eq_true_eq] at hk'
    unfold lk
    rcases h with ⟨h1, h2, h3⟩ | h
    · rw [h3, if_pos ⟨by omega, rfl⟩]
    · by_cases e : b.1 < 5 ∧ tnm b = tnm a
      · exfalso
        have hn := AT_inN s i a hs r h
        rw [e.2, hn] at hk'
        rcases hk'.2 with q | q
        · omega
        · exact absurd q.1 (by decide)
      · rw [if_neg e]
        exact AT_lk s i a hs r hk'.1 h
set_option maxHeartbeats 400000 in
theorem lk_AT (v : Nat) : ∀ (S : List StT) (a : StT), lk v S = some a → a.1 < 5 ∧ tnm a = v ∧ ∃ i, AT a.1 i a S
  | [], a, h => by cases h
  | b :: r, a, h => by
    unfold lk at h
    by_cases e : b.1 < 5 ∧ tnm b = v
    · rw [if_pos e] at h
      cases h
      exact ⟨e.1, e.2, cnt b.1 r, .inl ⟨rfl, rfl, rfl⟩⟩
    · rw [if_neg e] at h
      obtain ⟨h1, h2, i, h3⟩ := lk_AT v r a h
      exact ⟨h1, h2, i, .inr h3⟩
set_option maxHeartbeats 400000 in
theorem e_endAt (x1 : Int32) (x2 : Int32) (x3 : Int32) (c_parts : Nat → Int32) (c_contacts : Nat → Int32) (hN : NS c_parts c_contacts) (hh : hasP x1 x2 c_parts ∨ x1 = 5 ∧ x2 = 0) : Ok (f_X3_endAt x1 x2 x3 c_parts c_contacts) (fun r => (0 ≤ x3.toInt ∧ x3.toInt < (if x1 = 0 then 2 + 3 * (c_contacts x2.toInt.toNat).toInt else 2) ∧ 0 ≤ r.toInt ∧ r.toInt < 954) ∨ (¬ (0 ≤ x3.toInt ∧ x3.toInt < (if x1 = 0 then 2 + 3 * (c_contacts x2.toInt.toNat).toInt else 2)) ∧ r = -1)) := by
  obtain ⟨n0, n1, n2, n3, n4, n5⟩ := hN
  have go1 : Ok (f_X3_endAt_23 c_parts c_contacts x1 x2 x3 (1 : Int32)) (fun r => (0 ≤ x3.toInt ∧ x3.toInt < (if x1 = 0 then 2 + 3 * (c_contacts x2.toInt.toNat).toInt else 2) ∧ 0 ≤ r.toInt ∧ r.toInt < 954) ∨ (¬ (0 ≤ x3.toInt ∧ x3.toInt < (if x1 = 0 then 2 + 3 * (c_contacts x2.toInt.toNat).toInt else 2)) ∧ r = -1)) := by
    unfold f_X3_endAt_23 f_X3_endAt_62 f_X3_endsOf
    refine ok_if (fun a => absurd a (by decide)) (fun _ => ok_if (fun a2 => ok_some (.inr ⟨?_, rfl⟩)) (fun a3 => ?_))
    · rw [tI_lt, show (0 : Int32).toInt = 0 from by decide] at a2
      exact fun q => by omega
    rw [tI_lt, show (0 : Int32).toInt = 0 from by decide] at a3
    have h0 : (x1.toInt = 0 ∧ 0 ≤ x2.toInt ∧ x2.toInt < 40) ∨ ((cFE x1.toInt.toNat).toInt = 800 ∨ (cFE x1.toInt.toNat).toInt = 848 ∨ (cFE x1.toInt.toNat).toInt = 904) ∧ 0 ≤ x2.toInt ∧ x2.toInt < 24 ∧ 0 < x1.toInt ∧ x1.toInt < 6 ∨ (cFE x1.toInt.toNat).toInt = 896 ∧ 0 ≤ x2.toInt ∧ x2.toInt < 4 ∧ 0 < x1.toInt ∧ x1.toInt < 6 ∨ (cFE x1.toInt.toNat).toInt = 952 ∧ x2.toInt = 0 ∧ 0 < x1.toInt ∧ x1.toInt < 6 := by
      rcases hh with ⟨q1, q2, q3, q4⟩ | ⟨q1, q2⟩
      · have : x1.toInt = 0 ∨ x1.toInt = 1 ∨ x1.toInt = 2 ∨ x1.toInt = 3 ∨ x1.toInt = 4 := by omega
        rcases this with e | e | e | e | e <;> rw [e] at q4 <;> rw [e]
        · left; refine ⟨rfl, q3, ?_⟩; have : (Int.toNat 0) = 0 := rfl; rw [this] at q4; omega
        · right; left; exact ⟨.inl (by decide), q3, by have : (Int.toNat 1) = 1 := rfl; rw [this] at q4; omega, by decide, by decide⟩
        · right; left; exact ⟨.inr (.inl (by decide)), q3, by have : (Int.toNat 2) = 2 := rfl; rw [this] at q4; omega, by decide, by decide⟩
        · right; right; left; exact ⟨by decide, q3, by have : (Int.toNat 3) = 3 := rfl; rw [this] at q4; omega, by decide, by decide⟩
        · right; left; exact ⟨.inr (.inr (by decide)), q3, by have : (Int.toNat 4) = 4 := rfl; rw [this] at q4; omega, by decide, by decide⟩
      · subst q1; subst q2
        right; right; right; decide
    by_cases e : x1 = 0
    · subst e
      have hx2 : 0 ≤ x2.toInt ∧ x2.toInt < (40 : Nat) := by
        rcases h0 with q | q | q | q
        · exact q.2
        · exact absurd q.2.2.2.1 (by decide)
        · exact absurd q.2.2.2.1 (by decide)
        · exact absurd q.2.2.1 (by decide)
      have c5 := n5 x2.toInt.toNat (by omega)
      rw [if_pos rfl, if_pos rfl]
      rw [bad_f hx2.1 hx2.2, if_neg (by decide)]
      have ee : (2 + 3 * c_contacts x2.toNatClampNeg).toInt = 2 + 3 * (c_contacts x2.toInt.toNat).toInt := by
        rw [tI_nat]
        generalize c_contacts x2.toInt.toNat = z at c5
        ((try simp only [tI_lt, tI_le, tI_eq, tI_add, tI_sub, tI_mul, tI_nat, Int32.reduceToInt, Int.reduceToNat, fe_0, fe_1, fe_2, fe_3, fe_4, fe_5]) <;> (try simp (disch := omega) only [tI_bm]) <;> omega)
      refine ok_eq rfl (ok_if (fun a4 => ?_) (fun a4 => ok_some (.inr ⟨?_, rfl⟩)))
      · rw [tI_lt, ee] at a4
        refine ok_bad (by decide) ?_
        rw [if_pos rfl]
        refine ok_some (.inl ⟨by omega, a4, ?_⟩)
        rw [show cFE (0 : Int32).toNatClampNeg = 0 from by decide]
        clear n0 n1 n2 n3 n4 n5 hh h0
        ((try simp only [tI_lt, tI_le, tI_eq, tI_add, tI_sub, tI_mul, tI_nat, Int32.reduceToInt, Int.reduceToNat, fe_0, fe_1, fe_2, fe_3, fe_4, fe_5]) <;> (try simp (disch := omega) only [tI_bm]) <;> omega)
      · rw [tI_lt, ee] at a4
        exact fun q => a4 q.2
    · rw [if_neg e, if_neg e]
      have e' : ¬ x1.toInt = 0 := fun q => e (Int32.toInt_inj.mp (by rw [q]; decide))
      refine ok_eq rfl (ok_if (fun a4 => ?_) (fun a4 => ok_some (.inr ⟨?_, rfl⟩)))
      · rw [tI_lt, show (2 : Int32).toInt = 2 from by decide] at a4
        refine ok_bad (by omega) ?_
        rw [if_neg e]
        refine ok_some (.inl ⟨by omega, a4, ?_⟩)
        rw [tI_nat]
        clear n0 n1 n2 n3 n4 n5 hh
        ((try simp only [tI_lt, tI_le, tI_eq, tI_add, tI_sub, tI_mul, tI_nat, Int32.reduceToInt, Int.reduceToNat, fe_0, fe_1, fe_2, fe_3, fe_4, fe_5]) <;> (try simp (disch := omega) only [tI_bm]) <;> omega)
      · rw [tI_lt, show (2 : Int32).toInt = 2 from by decide] at a4
        intro q
        try rw [if_neg e] at q
        exact a4 q.2
  unfold f_X3_endAt f_X3_endAt_18
  refine ok_bind (so_X3_has _ _ _) (fun r1 h => ?_)
  rcases h with ⟨e, h⟩ | ⟨e, h⟩ <;> subst e
  · rcases hh with q | ⟨e1, e2⟩
    · exact absurd q h
    · exact ok_if (fun _ => ok_if (fun _ => ok_if (fun _ => go1) (fun z => absurd e2 z)) (fun z => absurd e1 z)) (fun a => absurd rfl a)
  · exact ok_if (fun a => absurd a (by decide)) (fun _ => go1)
/-! all that a well told netlist gives of names -/
def GS (fM fT : Int32) (parts : Nat → Int32) (names : Nat → Nat → Int64) (cont : Nat → Int32) (S : List StT) : Prop := okS S = true ∧ NS parts cont ∧ PB parts ∧ (∀ s : Nat, s < 5 → (parts s).toInt = cnt s S) ∧ PN names S ∧ (∀ i a, AT 0 i a S → (cont i).toInt = nkd a)
set_option maxHeartbeats 400000 in
theorem s_findEnd (x1 : Int32) (x2 : Int32) (c_tokens_kinds : Nat → Int32) (c_tokens_values : Nat → Int64) (c_draft_parts : Nat → Int32) (c_draft_names : Nat → Nat → Int64) (c_draft_contacts : Nat → Int32) (fM fT : Int32) (S : List StT) (hG : GS fM fT c_draft_parts c_draft_names c_draft_contacts S) (v c : Nat) (hc : c ≤ 19) (h1 : 0 ≤ x1.toInt ∧ x1.toInt < 4001) (h2 : x2 = Int32.ofNat c) (hK : PinK c_tokens_kinds c_tokens_values x1.toInt.toNat v) : Ok (f_X5_findEnd x1 x2 c_tokens_kinds c_tokens_values c_draft_parts c_draft_names c_draft_contacts) (fun r => (okPin S v c = true ∧ 0 ≤ r.toInt ∧ r.toInt < 954) ∨ (okPin S v c = false ∧ r = -1)) := by
  obtain ⟨hok, hN, hB, hcnt, hP, hX⟩ := hG
  unfold f_X5_findEnd okPin
  have e2 : x2.toInt = c := by rw [h2]; exact Int32.toInt_ofNat_of_lt (by omega)
  refine ok_bad h1 ?_
  rw [tI_nat]
  by_cases v0 : v = 0
  · rw [if_neg (hK.1 v0), if_pos v0]
    refine ok_bind (e_endAt (x1 := 5) (x2 := 0) (x3 := x2) (c_parts := c_draft_parts) (c_contacts := c_draft_contacts) hN (.inr ⟨rfl, rfl⟩)) (fun r hr => ok_some ?_)
    rw [if_neg (by decide)] at hr
    rcases hr with ⟨q1, q2, q3, q4⟩ | ⟨q1, q2⟩
    · exact .inl ⟨decide_eq_true (by omega), q3, q4⟩
    · exact .inr ⟨decide_eq_false (by omega), q2⟩
  · obtain ⟨k1, k2, k3⟩ := hK.2 v0
    rw [if_pos k1, if_neg v0]
    refine ok_bad h1 ?_
    rw [k2]
    refine ok_bind (s_X3_find (x1 := Int64.ofNat v) (c_parts := c_draft_parts) (c_names := c_draft_names) hB) (fun r3 hr => ?_)
    rcases hr with ⟨g1, g2⟩ | ⟨s, i, g1, g2, g3, g4⟩
    · rw [if_pos (Int32.toInt_inj.mp (by rw [g1]; decide))]
      have : lk v S = none := by
        cases q : lk v S with
        | none => rfl
        | some a =>
          obtain ⟨a1, a2, i, a3⟩ := lk_AT v S a q
          have pn := AT_PN _ _ _ _ a1 S hP a3
          have ii := AT_in _ _ _ S a3
          have cc := hcnt a.1 a1
          exact absurd (by rw [pn.1, a2]) (g2 a.1 i a1 (by omega))
      rw [this]
      exact ok_some (.inr ⟨rfl, rfl⟩)
    · rw [if_neg (fun q => by rw [q, show (-1 : Int32).toInt = -1 from by decide] at g4; omega)]
      have cc := hcnt s g1
      obtain ⟨a, ha⟩ := AT_ex s S i (by omega)
      have pn := AT_PN _ _ _ _ g1 S hP ha
      have ai := AT_in _ _ _ S ha
      have tv : tnm a = v := by
        have := pn.1.symm.trans g3
        exact (L_eq pn.2 k3).mp this
      have hl := AT_lk _ _ _ g1 S hok ha
      rw [tv] at hl
      rw [hl]
      have pb := hB s g1
      have m40 := mst_le s
      have ed : (r3 / 40).toInt = s := by
        rw [tI_div (by omega) (by decide), g4, show (40 : Int32).toInt = 40 from by decide]
        omega
      have er : (xrem r3 40).toInt = i := by
        rw [tI_rem (by omega) (by decide), g4, show (40 : Int32).toInt = 40 from by decide]
        omega
      have hasp : ∀ y : Int32, y.toInt = s → hasP y (xrem r3 40) c_draft_parts := by
        intro y hy
        refine ⟨by omega, by omega, by omega, ?_⟩
        rw [er, show y.toInt.toNat = s by omega]
        exact g2
      refine ok_vlet (ok_vlet ?_)
      dsimp only
      refine ok_if (fun z => ?_) (fun z => ?_)
      · have s0 : s = 0 := by rw [z, show (0 : Int32).toInt = 0 from by decide] at ed; omega
        subst s0
        have a0 : a.1 = 0 := ai.1
        rw [if_pos a0]
        refine ok_bind (e_endAt (x1 := 0) (x2 := xrem r3 40) (x3 := x2) (c_parts := c_draft_parts) (c_contacts := c_draft_contacts) hN (.inl (hasp 0 (by decide)))) (fun r hr => ok_some ?_)
        rw [if_pos rfl, er] at hr
        have ex := hX i a ha
        have ei : ((i : Nat) : Int).toNat = i := by omega
        rw [ei, ex, e2] at hr
        rcases hr with ⟨q1, q2, q3, q4⟩ | ⟨q1, q2⟩
        · exact .inl ⟨decide_eq_true (by omega), q3, q4⟩
        · exact .inr ⟨decide_eq_false (by omega), q2⟩
      · have s0 : ¬ s = 0 := fun q => z (Int32.toInt_inj.mp (by rw [ed, q]; decide))
        have a0 : ¬ a.1 = 0 := by omega
        rw [if_neg a0]
        refine ok_if (fun w => ?_) (fun w => ok_if (fun w2 => ?_) (fun w2 => ?_))
        · have cw : c = 2 := by rw [w, show (2 : Int32).toInt = 2 from by decide] at e2; omega
          refine ok_bind (e_endAt (x1 := r3 / 40) (x2 := xrem r3 40) (x3 := 0) (c_parts := c_draft_parts) (c_contacts := c_draft_contacts) hN (.inl (hasp _ ed))) (fun r hr => ok_some ?_)
          rw [if_neg z] at hr
          rcases hr with ⟨q1, q2, q3, q4⟩ | ⟨q1, q2⟩
          · exact .inl ⟨by rw [cw]; rfl, q3, q4⟩
          · exact absurd ⟨by decide, by decide⟩ q1
        · have cw : c = 5 := by rw [w2, show (5 : Int32).toInt = 5 from by decide] at e2; omega
          refine ok_bind (e_endAt (x1 := r3 / 40) (x2 := xrem r3 40) (x3 := 1) (c_parts := c_draft_parts) (c_contacts := c_draft_contacts) hN (.inl (hasp _ ed))) (fun r hr => ok_some ?_)
          rw [if_neg z] at hr
          rcases hr with ⟨q1, q2, q3, q4⟩ | ⟨q1, q2⟩
          · exact .inl ⟨by rw [cw]; rfl, q3, q4⟩
          · exact absurd ⟨by decide, by decide⟩ q1
        · have c2 : ¬ c = 2 := fun q => w (Int32.toInt_inj.mp (by rw [e2, q]; decide))
          have c5 : ¬ c = 5 := fun q => w2 (Int32.toInt_inj.mp (by rw [e2, q]; decide))
          refine ok_some (.inr ⟨?_, rfl⟩)
          show (decide (c = 2) || decide (c = 5)) = false
          rw [decide_eq_false c2, decide_eq_false c5]; rfl
