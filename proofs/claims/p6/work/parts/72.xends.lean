set_option maxHeartbeats 400000 in
theorem s_findEnd_safe (x1 : Int32) (x2 : Int32) (c_tokens_kinds : Nat → Int32) (c_tokens_values : Nat → Int64) (c_draft_parts : Nat → Int32) (c_draft_names : Nat → Nat → Int64) (c_draft_contacts : Nat → Int32) (hN : NS c_draft_parts c_draft_contacts) (hB : PB c_draft_parts) (h1 : 0 ≤ x1.toInt ∧ x1.toInt < 4001) : Ok (f_X5_findEnd x1 x2 c_tokens_kinds c_tokens_values c_draft_parts c_draft_names c_draft_contacts) (fun _ => True) := by
  unfold f_X5_findEnd
  have e := fun a b c => so_X3_endAt (x1 := a) (x2 := b) (x3 := c) (c_parts := c_draft_parts) (c_contacts := c_draft_contacts) hN
  refine ok_bad h1 (ok_if (fun _ => ok_bad h1 ?_) (fun _ => ok_bind (e _ _ _) (fun _ _ => ok_some trivial)))
  refine ok_bind (s_X3_find _ _ _ hB) (fun r3 _ => ok_if (fun _ => ok_some trivial) (fun _ => ok_vlet (ok_vlet ?_)))
  exact ok_if (fun _ => ok_bind (e _ _ _) (fun _ _ => ok_some trivial)) (fun _ => ok_if (fun _ => ok_bind (e _ _ _) (fun _ _ => ok_some trivial)) (fun _ => ok_if (fun _ => ok_bind (e _ _ _) (fun _ _ => ok_some trivial)) (fun _ => ok_some trivial)))
set_option maxHeartbeats 400000 in
theorem nn1 {x : Int32} (h : 0 ≤ x.toInt) : ¬ x = -1 := fun q => by rw [q] at h; exact absurd h (by decide)
set_option maxHeartbeats 400000 in
theorem s_findEnds_bad (c_firstTwice : Int32) (c_pins : Int32) (c_tokens_kinds : Nat → Int32) (c_tokens_places : Nat → Int32) (c_tokens_values : Nat → Int64) (c_draft_parts : Nat → Int32) (c_draft_names : Nat → Nat → Int64) (c_draft_contacts : Nat → Int32) (c_pinAt : Nat → Int32) (hN : NS c_draft_parts c_draft_contacts) (hB : PB c_draft_parts) (hp : c_pins.toInt ≤ 1334) (hA : ∀ i : Nat, (i : Int) < c_pins.toInt → 0 ≤ (c_pinAt i).toInt ∧ (c_pinAt i).toInt < 4001) (hPA : PA c_tokens_places) (hT : 0 ≤ c_firstTwice.toInt) : ∀ (n : Nat) (x1 : Int32) (c_pinEnds : Nat → Int32), 0 ≤ x1.toInt → x1.toInt ≤ 1334 → 1334 < x1.toInt + n → Ok (f_X5_findEnds_2 c_firstTwice c_pins c_tokens_kinds c_tokens_places c_tokens_values c_draft_parts c_draft_names c_draft_contacts c_pinAt n x1 c_pinEnds) (fun r => ¬ r.1 = -1)
  | 0, x1, c_pinEnds, h1, h2, h3 => by exfalso; omega
  | n + 1, x1, c_pinEnds, h1, h2, h3 => by
    unfold f_X5_findEnds_2
    refine ok_if (fun _ => ok_some (nn1 hT)) (fun a => ?_)
    rw [tI_le] at a
    have hb : 0 ≤ x1.toInt ∧ x1.toInt < (1334 : Nat) := by omega
    have pa := hA x1.toInt.toNat (by omega)
    have pl := hPA (c_pinAt x1.toInt.toNat).toInt.toNat (by omega)
    have e1 : (x1 + 1).toInt = x1.toInt + 1 := by ((try simp only [tI_lt, tI_le, tI_eq, tI_add, tI_sub, tI_mul, tI_nat, Int32.reduceToInt, Int.reduceToNat, fe_0, fe_1, fe_2, fe_3, fe_4, fe_5]) <;> (try simp (disch := omega) only [tI_bm]) <;> omega)
    refine ok_bad hb (ok_bad hb (ok_bind (s_findEnd_safe _ _ _ _ _ _ _ hN hB pa) (fun r3 _ => ok_if (fun _ => ok_bad hb (ok_bad pa (ok_vlet (ok_if (fun _ => ok_some (nn1 pl)) (fun _ => ok_some ?_))))) (fun _ => ok_bad hb (ok_vlet (ok_vlet ?_))))))
    · refine nn1 ?_
      unfold xmin
      split
      · exact hT
      · exact pl
    · exact s_findEnds_bad c_firstTwice c_pins c_tokens_kinds c_tokens_places c_tokens_values c_draft_parts c_draft_names c_draft_contacts c_pinAt hN hB hp hA hPA hT n _ _ (by omega) (by omega) (by omega)
def QA (i : Nat) (q : QnT) : List QnT → Prop
  | [] => False
  | b :: r => (i = r.length ∧ q = b) ∨ QA i q r
set_option maxHeartbeats 400000 in
theorem QA_mem (q : QnT) : ∀ Q : List QnT, q ∈ Q → ∃ i, i < Q.length ∧ QA i q Q
  | [], h => absurd h List.not_mem_nil
  | b :: r, h => by
    rcases List.mem_cons.mp h with e | e
    · exact ⟨r.length, by simp, .inl ⟨rfl, e⟩⟩
    · obtain ⟨i, h1, h2⟩ := QA_mem q r e
      exact ⟨i, by simp; omega, .inr h2⟩
set_option maxHeartbeats 400000 in
theorem QA_ex : ∀ (Q : List QnT) (i : Nat), i < Q.length → ∃ q, q ∈ Q ∧ QA i q Q
  | [], i, h => absurd h (Nat.not_lt_zero _)
  | b :: r, i, h => by
    rw [List.length_cons] at h
    by_cases e : i = r.length
    · exact ⟨b, List.mem_cons_self .., .inl ⟨e, rfl⟩⟩
    · obtain ⟨q, h1, h2⟩ := QA_ex r i (by omega)
      exact ⟨q, List.mem_cons_of_mem _ h1, .inr h2⟩
set_option maxHeartbeats 400000 in
theorem QA_QX (kd : Nat → Int32) (vl : Nat → Int64) (pinAt pinEnds pinWires : Nat → Int32) (i : Nat) (q : QnT) : ∀ Q : List QnT, QX kd vl pinAt pinEnds pinWires Q → QA i q Q → pinEnds i = Int32.ofNat q.2.1 ∧ q.2.1 ≤ 19 ∧ (pinWires i).toInt = q.2.2 ∧ 0 ≤ (pinAt i).toInt ∧ (pinAt i).toInt < 4001 ∧ PinK kd vl (pinAt i).toInt.toNat q.1
  | [], _, h => absurd h (fun q => q)
  | b :: r, hx, h => by
    rcases h with ⟨h1, h2⟩ | h
    · rw [h1, h2]; exact hx.1
    · exact QA_QX kd vl pinAt pinEnds pinWires i q r hx.2 h
set_option maxHeartbeats 400000 in
theorem QX_at (kd : Nat → Int32) (vl : Nat → Int64) (pinAt pinEnds pinWires : Nat → Int32) (Q : List QnT) (h : QX kd vl pinAt pinEnds pinWires Q) (i : Nat) (hi : i < Q.length) : 0 ≤ (pinAt i).toInt ∧ (pinAt i).toInt < 4001 := by
  obtain ⟨q, -, hq⟩ := QA_ex Q i hi
  have := QA_QX _ _ _ _ _ _ _ Q h hq
  exact ⟨this.2.2.2.1, this.2.2.2.2.1⟩
def allPin (S : List StT) (Q : List QnT) : Prop := ∀ q ∈ Q, okPin S q.1 q.2.1 = true
set_option maxHeartbeats 400000 in
theorem s_findEnds_ok (c_firstTwice : Int32) (c_pins : Int32) (c_tokens_kinds : Nat → Int32) (c_tokens_places : Nat → Int32) (c_tokens_values : Nat → Int64) (c_draft_parts : Nat → Int32) (c_draft_names : Nat → Nat → Int64) (c_draft_contacts : Nat → Int32) (c_pinAt : Nat → Int32) (S : List StT) (Q : List QnT) (pinEnds0 pinWires : Nat → Int32) (hG : GS (-1) (-1) c_draft_parts c_draft_names c_draft_contacts S) (hT : c_firstTwice = -1) (hp : c_pins.toInt = Q.length) (hl : Q.length ≤ 1334) (hQ : QX c_tokens_kinds c_tokens_values c_pinAt pinEnds0 pinWires Q) (hPA : PA c_tokens_places) : ∀ (n : Nat) (x1 : Int32) (c_pinEnds : Nat → Int32), 0 ≤ x1.toInt → x1.toInt ≤ Q.length → (Q.length : Int) < x1.toInt + n → (∀ i : Nat, (i : Int) < x1.toInt → ∀ q, QA i q Q → okPin S q.1 q.2.1 = true) → (∀ i : Nat, x1.toInt ≤ i → c_pinEnds i = pinEnds0 i) → Ok (f_X5_findEnds_2 c_firstTwice c_pins c_tokens_kinds c_tokens_places c_tokens_values c_draft_parts c_draft_names c_draft_contacts c_pinAt n x1 c_pinEnds) (fun r => (r.1 = -1 ∧ allPin S Q) ∨ (¬ r.1 = -1 ∧ ¬ allPin S Q))
  | 0, x1, c_pinEnds, h1, h2, h3, h4, h5 => by exfalso; omega
  | n + 1, x1, c_pinEnds, h1, h2, h3, h4, h5 => by
    unfold f_X5_findEnds_2
    refine ok_if (fun a => ok_some (.inl ⟨hT, fun q hq => ?_⟩)) (fun a => ?_)
    · rw [tI_le] at a
      obtain ⟨i, i1, i2⟩ := QA_mem q Q hq
      exact h4 i (by omega) q i2
    rw [tI_le] at a
    have hb : 0 ≤ x1.toInt ∧ x1.toInt < (1334 : Nat) := by omega
    obtain ⟨q, hq, ha⟩ := QA_ex Q x1.toInt.toNat (by omega)
    have qx := QA_QX _ _ _ _ _ _ _ Q hQ ha
    have pa : 0 ≤ (c_pinAt x1.toInt.toNat).toInt ∧ (c_pinAt x1.toInt.toNat).toInt < 4001 := ⟨qx.2.2.2.1, qx.2.2.2.2.1⟩
    have pl := hPA (c_pinAt x1.toInt.toNat).toInt.toNat (by omega)
    have e1 : (x1 + 1).toInt = x1.toInt + 1 := by ((try simp only [tI_lt, tI_le, tI_eq, tI_add, tI_sub, tI_mul, tI_nat, Int32.reduceToInt, Int.reduceToNat, fe_0, fe_1, fe_2, fe_3, fe_4, fe_5]) <;> (try simp (disch := omega) only [tI_bm]) <;> omega)
    have pe : c_pinEnds x1.toNatClampNeg = Int32.ofNat q.2.1 := by rw [tI_nat, h5 _ (by omega)]; exact qx.1
    refine ok_bad hb (ok_bad hb (ok_bind (s_findEnd _ _ _ _ _ _ _ (-1) (-1) S hG q.1 q.2.1 qx.2.1 pa pe qx.2.2.2.2.2) (fun r3 hr => ?_)))
    rcases hr with ⟨g1, g2, g3⟩ | ⟨g1, g2⟩
    · rw [if_neg (nn1 g2)]
      refine ok_bad hb (ok_vlet (ok_vlet ?_))
      refine s_findEnds_ok c_firstTwice c_pins c_tokens_kinds c_tokens_places c_tokens_values c_draft_parts c_draft_names c_draft_contacts c_pinAt S Q pinEnds0 pinWires hG hT hp hl hQ hPA n _ _ (by omega) (by omega) (by omega) (fun i hi q' hq' => ?_) (fun i hi => ?_)
      · by_cases z : (i : Int) < x1.toInt
        · exact h4 i z q' hq'
        · have ei : i = x1.toInt.toNat := by omega
          -- the pin at an index is one
          have uq : ∀ (Q : List QnT) (i : Nat) (a b : QnT), i < Q.length → QA i a Q → QA i b Q → a = b := by
            intro Q
            induction Q with
            | nil => intro i a b h; exact absurd h (Nat.not_lt_zero _)
            | cons c r ih =>
              intro i a b h ha hb
              have lt : ∀ x, QA i x r → i < r.length := fun x hx => by
                have : ∀ (R : List QnT), QA i x R → i < R.length := by
                  intro R
                  induction R with
                  | nil => intro h; exact absurd h (fun q => q)
                  | cons d R ih2 =>
                    intro h
                    rw [List.length_cons]
                    rcases h with ⟨h, -⟩ | h
                    · omega
                    · have := ih2 h; omega
                exact this r hx
              rcases ha with ⟨a1, a2⟩ | ha
              · rcases hb with ⟨b1, b2⟩ | hb
                · rw [a2, b2]
                · have := lt _ hb; omega
              · rcases hb with ⟨b1, b2⟩ | hb
                · have := lt _ ha; omega
                · exact ih i a b (lt _ ha) ha hb
          rw [ei] at hq'
          rw [uq Q _ q' q (by omega) hq' ha]
          exact g1
      · rw [upd_at, if_neg (by rw [tI_nat]; omega)]
        exact h5 i (by omega)
    · rw [if_pos g2]
      refine ok_bad hb (ok_bad pa (ok_vlet ?_))
      rw [if_pos hT]
      refine ok_some (.inr ⟨nn1 pl, fun k => ?_⟩)
      rw [k q hq] at g1
      cases g1
