/-! the class's nets: where an end lies, and wires joined -/
def ce (s : Nat) : Nat := if s = 0 then 0 else if s = 1 then 800 else if s = 2 then 848 else if s = 3 then 896 else if s = 4 then 904 else 952
def cEnd (s i k : Nat) : Nat := ce s + (if s = 0 then 20 * i else 2 * i) + k
set_option maxHeartbeats 400000 in
theorem cFE_v (s : Nat) (hs : s ≤ 5) : (cFE s).toInt = ((ce s : Nat) : Int) := by
  have : s = 0 ∨ s = 1 ∨ s = 2 ∨ s = 3 ∨ s = 4 ∨ s = 5 := by omega
  rcases this with e | e | e | e | e | e <;> subst e <;> decide
set_option maxHeartbeats 400000 in
theorem ce_le (s : Nat) : ce s ≤ 952 := by unfold ce; (repeat' split) <;> omega
set_option maxHeartbeats 400000 in
theorem x_endAt (x1 : Int32) (x2 : Int32) (x3 : Int32) (c_parts : Nat → Int32) (c_contacts : Nat → Int32) (s i k : Nat) (h1 : x1.toInt = s) (h2 : x2.toInt = i) (h3 : x3.toInt = k) (hs : s ≤ 5) (hi : i < 40) (hk : k < 20) : Pc (f_X3_endAt x1 x2 x3 c_parts c_contacts) (fun r => r = -1 ∨ r.toInt = cEnd s i k) := by
  have e1 : x1.toNatClampNeg = s := by rw [tI_nat]; omega
  have cf := cFE_v s hs
  have go : ∀ y0 : Int32, Pc (f_X3_endAt_23 c_parts c_contacts x1 x2 x3 y0) (fun r => r = -1 ∨ r.toInt = cEnd s i k) := by
    intro y0
    unfold f_X3_endAt_23 f_X3_endAt_62
    refine pc_if (fun _ => pc_some (.inl rfl)) (fun _ => pc_if (fun _ => pc_some (.inl rfl)) (fun _ => pc_any (fun r1 _ => pc_if (fun _ => pc_bad (fun _ => pc_if (fun z => pc_some (.inr ?_)) (fun z => pc_some (.inr ?_)))) (fun _ => pc_some (.inl rfl)))))
    · have s0 : s = 0 := by rw [z, l_0] at h1; omega
      rw [e1]
      have cf' : (cFE 0).toInt = 0 := by decide
      unfold cEnd
      subst s0
      rw [if_pos rfl, show ce 0 = 0 from rfl]
      generalize cFE 0 = w at cf' ⊢
      clear cf
      ((try simp only [tI_lt, tI_le, tI_eq, tI_add, tI_sub, tI_mul, tI_nat, Int32.reduceToInt, Int.reduceToNat, fe_0, fe_1, fe_2, fe_3, fe_4, fe_5]) <;> (try simp (disch := omega) only [tI_bm]) <;> omega)
    · have s0 : ¬ s = 0 := fun q => z (Int32.toInt_inj.mp (by rw [h1, q]; decide))
      rw [e1]
      unfold cEnd
      rw [if_neg s0]
      have vle := ce_le s
      generalize ce s = v at cf vle ⊢
      generalize cFE s = w at cf ⊢
      ((try simp only [tI_lt, tI_le, tI_eq, tI_add, tI_sub, tI_mul, tI_nat, Int32.reduceToInt, Int.reduceToNat, fe_0, fe_1, fe_2, fe_3, fe_4, fe_5]) <;> (try simp (disch := omega) only [tI_bm]) <;> omega)
  unfold f_X3_endAt f_X3_endAt_18 f_X3_endAt_22
  exact pc_any (fun r1 _ => pc_if (fun _ => pc_if (fun _ => pc_if (fun _ => go _) (fun _ => go _)) (fun _ => go _)) (fun _ => go _))
/-! the end that a PIN tells -/
set_option maxHeartbeats 400000 in
theorem x_findEnd (x1 : Int32) (x2 : Int32) (c_tokens_kinds : Nat → Int32) (c_tokens_values : Nat → Int64) (c_draft_parts : Nat → Int32) (c_draft_names : Nat → Nat → Int64) (c_draft_contacts : Nat → Int32) (fM fT : Int32) (S : List StT) (hG : GS fM fT c_draft_parts c_draft_names c_draft_contacts S) (v c : Nat) (hc : c ≤ 19) (h1 : 0 ≤ x1.toInt ∧ x1.toInt < 4001) (h2 : x2 = Int32.ofNat c) (hK : PinK c_tokens_kinds c_tokens_values x1.toInt.toNat v) : Pc (f_X5_findEnd x1 x2 c_tokens_kinds c_tokens_values c_draft_parts c_draft_names c_draft_contacts) (fun r => r = -1 ∨ r.toInt = enX S v c) := by
  obtain ⟨hok, hN, hB, hcnt, hP, hX⟩ := hG
  unfold f_X5_findEnd
  have e2 : x2.toInt = c := by rw [h2]; exact Int32.toInt_ofNat_of_lt (by omega)
  refine pc_bad (fun _ => ?_)
  rw [tI_nat]
  by_cases v0 : v = 0
  · rw [if_neg (hK.1 v0)]
    refine pc_bind (pc_and (pc_ok (e_endAt (x1 := 5) (x2 := 0) (x3 := x2) (c_parts := c_draft_parts) (c_contacts := c_draft_contacts) hN (.inr ⟨rfl, rfl⟩))) (x_endAt (x1 := 5) (x2 := 0) (x3 := x2) (c_parts := c_draft_parts) (c_contacts := c_draft_contacts) 5 0 c (by decide) (by decide) e2 (by decide) (by decide) (by omega))) (fun r hr => pc_some ?_)
    obtain ⟨q1, q2⟩ := hr
    rcases q2 with q | q
    · exact .inl q
    · rcases q1 with ⟨w1, w2, -⟩ | ⟨-, w⟩
      · rw [if_neg (by decide)] at w2
        refine .inr ?_
        rw [q]
        unfold enX enS cEnd
        rw [if_pos v0]
        show ((952 + 0 + c : Nat) : Int) = (((c + 952) % 954 : Nat) : Int)
        omega
      · exact .inl w
  · obtain ⟨k1, k2, k3⟩ := hK.2 v0
    rw [if_pos k1]
    refine pc_bad (fun _ => ?_)
    rw [k2]
    refine pc_bind (pc_ok (s_X3_find (x1 := Int64.ofNat v) (c_parts := c_draft_parts) (c_names := c_draft_names) hB)) (fun r3 hr => ?_)
    rcases hr with ⟨g1, g2⟩ | ⟨s, i, g1, g2, g3, g4⟩
    · rw [if_pos (Int32.toInt_inj.mp (by rw [g1]; decide))]
      exact pc_some (.inl rfl)
    · rw [if_neg (fun q => by rw [q, l_m1] at g4; omega)]
      have cc := hcnt s g1
      obtain ⟨a, ha⟩ := AT_ex s S i (by omega)
      have pn := AT_PN _ _ _ _ g1 S hP ha
      have ai := AT_in _ _ _ S ha
      have tv : tnm a = v := by
        have := pn.1.symm.trans g3
        exact (L_eq pn.2 k3).mp this
      have hl := AT_lk _ _ _ g1 S hok ha
      have hx := AT_ix _ _ _ g1 S hok ha
      rw [tv] at hl hx
      have ev : enS S v c = if a.1 = 0 then 2 + 20 * i + c else feM a.1 + 2 * i + (if c = 5 then 1 else 0) := by
        unfold enS
        rw [if_neg v0, hl, hx]
      have pb := hB s g1
      have m40 := mst_le s
      have ed : (r3 / 40).toInt = s := by
        rw [tI_div (by omega) (by decide), g4, l_40]
        omega
      have er : (xrem r3 40).toInt = i := by
        rw [tI_rem (by omega) (by decide), g4, l_40]
        omega
      have i40 : i < 40 := by omega
      have ms : s ≠ 0 → i < 24 := fun z => by
        have : mst s ≤ 24 := by unfold mst; rw [if_neg z]; split <;> omega
        omega
      have fe : ∀ k, s ≠ 0 → k < 2 → ((feM a.1 + 2 * i + k + 952) % 954 : Nat) = cEnd s i k := fun k z hk => by
        have i24 := ms z
        rw [ai.1]
        unfold cEnd feM
        rw [if_neg z]
        have : s = 1 ∨ s = 2 ∨ s = 3 ∨ s = 4 := by omega
        rcases this with w | w | w | w <;> subst w
        · show (802 + 2 * i + k + 952) % 954 = 800 + 2 * i + k; omega
        · show (850 + 2 * i + k + 952) % 954 = 848 + 2 * i + k; omega
        · show (898 + 2 * i + k + 952) % 954 = 896 + 2 * i + k; omega
        · show (906 + 2 * i + k + 952) % 954 = 904 + 2 * i + k; omega
      refine pc_vlet (pc_vlet (pc_if (fun z => ?_) (fun z => ?_)))
      · have s0 : s = 0 := by rw [z, l_0] at ed; omega
        refine pc_bind (x_endAt (x1 := 0) (x2 := xrem r3 40) (x3 := x2) (c_parts := c_draft_parts) (c_contacts := c_draft_contacts) 0 i c (by decide) er e2 (by decide) i40 (by omega)) (fun r hr => pc_some ?_)
        rcases hr with q | q
        · exact .inl q
        · refine .inr ?_
          rw [q]
          unfold enX
          rw [ev, if_pos (by rw [ai.1, s0])]
          show ((0 + 20 * i + c : Nat) : Int) = (((2 + 20 * i + c + 952) % 954 : Nat) : Int)
          omega
      · have s0 : ¬ s = 0 := fun q => z (Int32.toInt_inj.mp (by rw [ed, q]; decide))
        have a0 : ¬ a.1 = 0 := by rw [ai.1]; exact s0
        refine pc_if (fun w => ?_) (fun w => pc_if (fun w2 => ?_) (fun w2 => pc_some (.inl rfl)))
        · have cw : c = 2 := by rw [w, l_2] at e2; omega
          refine pc_bind (x_endAt (x1 := r3 / 40) (x2 := xrem r3 40) (x3 := 0) (c_parts := c_draft_parts) (c_contacts := c_draft_contacts) s i 0 ed er (by decide) (by omega) i40 (by decide)) (fun r hr => pc_some ?_)
          rcases hr with q | q
          · exact .inl q
          · refine .inr ?_
            rw [q]
            unfold enX
            rw [ev, if_neg a0, if_neg (by omega), fe 0 s0 (by decide)]
        · have cw : c = 5 := by rw [w2, l_5] at e2; omega
          refine pc_bind (x_endAt (x1 := r3 / 40) (x2 := xrem r3 40) (x3 := 1) (c_parts := c_draft_parts) (c_contacts := c_draft_contacts) s i 1 ed er (by decide) (by omega) i40 (by decide)) (fun r hr => pc_some ?_)
          rcases hr with q | q
          · exact .inl q
          · refine .inr ?_
            rw [q]
            unfold enX
            rw [ev, if_neg a0, if_pos cw, fe 1 s0 (by decide)]
set_option maxHeartbeats 400000 in
theorem QA_lt (i : Nat) (q : QnT) : ∀ Q : List QnT, QA i q Q → i < Q.length
  | [], h => absurd h (fun z => z)
  | b :: r, h => by
    rw [List.length_cons]
    rcases h with ⟨h1, -⟩ | h
    · omega
    · have := QA_lt i q r h; omega
set_option maxHeartbeats 400000 in
theorem QA_un (i : Nat) (a b : QnT) : ∀ Q : List QnT, QA i a Q → QA i b Q → a = b
  | [], h, _ => absurd h (fun z => z)
  | c :: r, ha, hb => by
    rcases ha with ⟨a1, a2⟩ | ha
    · rcases hb with ⟨b1, b2⟩ | hb
      · rw [a2, b2]
      · have := QA_lt i b r hb; omega
    · rcases hb with ⟨b1, b2⟩ | hb
      · have := QA_lt i a r ha; omega
      · exact QA_un i a b r ha hb
set_option maxHeartbeats 400000 in
theorem x_findEnds_2 (c_firstTwice : Int32) (c_pins : Int32) (c_tokens_kinds : Nat → Int32) (c_tokens_places : Nat → Int32) (c_tokens_values : Nat → Int64) (c_draft_parts : Nat → Int32) (c_draft_names : Nat → Nat → Int64) (c_draft_contacts : Nat → Int32) (c_pinAt : Nat → Int32) (S : List StT) (Q : List QnT) (pinEnds0 pinWires : Nat → Int32) (hG : GS (-1) (-1) c_draft_parts c_draft_names c_draft_contacts S) (hp : c_pins.toInt = Q.length) (hl : Q.length ≤ 1334) (hQ : QX c_tokens_kinds c_tokens_values c_pinAt pinEnds0 pinWires Q) (hPA : PA c_tokens_places) (hT : c_firstTwice = -1) : ∀ (n : Nat) (x1 : Int32) (c_pinEnds : Nat → Int32), 0 ≤ x1.toInt → x1.toInt ≤ Q.length → (∀ (i : Nat) (q : QnT), (i : Int) < x1.toInt → QA i q Q → (c_pinEnds i).toInt = enX S q.1 q.2.1) → (∀ i : Nat, x1.toInt ≤ i → c_pinEnds i = pinEnds0 i) → Pc (f_X5_findEnds_2 c_firstTwice c_pins c_tokens_kinds c_tokens_places c_tokens_values c_draft_parts c_draft_names c_draft_contacts c_pinAt n x1 c_pinEnds) (fun r => r.1 = -1 → EXq (enX S) r.2 pinWires Q)
  | 0, x1, c_pinEnds, h1, h2, h4, h5 => pc_none
  | n + 1, x1, c_pinEnds, h1, h2, h4, h5 => by
    unfold f_X5_findEnds_2
    refine pc_if (fun a => pc_some (fun _ => ?_)) (fun a => ?_)
    · rw [tI_le] at a
      refine EXq_of _ _ _ Q (fun i q hq => ?_)
      have := QA_lt i q Q hq
      exact ⟨h4 i q (by omega) hq, (QA_QX _ _ _ _ _ _ _ Q hQ hq).2.2.1⟩
    rw [tI_le] at a
    obtain ⟨q, hq, ha⟩ := QA_ex Q x1.toInt.toNat (by omega)
    have qx := QA_QX _ _ _ _ _ _ _ Q hQ ha
    have pa : 0 ≤ (c_pinAt x1.toInt.toNat).toInt ∧ (c_pinAt x1.toInt.toNat).toInt < 4001 := ⟨qx.2.2.2.1, qx.2.2.2.2.1⟩
    have pl := hPA (c_pinAt x1.toInt.toNat).toInt.toNat (by omega)
    have e1 : (x1 + 1).toInt = x1.toInt + 1 := by ((try simp only [tI_lt, tI_le, tI_eq, tI_add, tI_sub, tI_mul, tI_nat, Int32.reduceToInt, Int.reduceToNat, fe_0, fe_1, fe_2, fe_3, fe_4, fe_5]) <;> (try simp (disch := omega) only [tI_bm]) <;> omega)
    have pe : c_pinEnds x1.toNatClampNeg = Int32.ofNat q.2.1 := by rw [tI_nat, h5 _ (by omega)]; exact qx.1
    refine pc_bad (fun _ => pc_bad (fun _ => pc_bind (x_findEnd _ _ _ _ _ _ _ (-1) (-1) S hG q.1 q.2.1 qx.2.1 pa pe qx.2.2.2.2.2) (fun r3 hr => pc_if (fun z => ?_) (fun z => ?_))))
    · refine pc_bad (fun _ => pc_bad (fun _ => pc_vlet (pc_if (fun _ => pc_some (fun w => absurd w (nn1 pl))) (fun w2 => absurd hT w2))))
    · refine pc_bad (fun _ => pc_vlet (pc_vlet ?_))
      have hr2 := hr.resolve_left z
      refine x_findEnds_2 c_firstTwice c_pins c_tokens_kinds c_tokens_places c_tokens_values c_draft_parts c_draft_names c_draft_contacts c_pinAt S Q pinEnds0 pinWires hG hp hl hQ hPA hT n _ _ (by omega) (by omega) (fun i q' hi hq' => ?_) (fun i hi => ?_)
      · rw [upd_at, tI_nat]
        by_cases w : i = x1.toInt.toNat
        · rw [if_pos w]
          rw [w] at hq'
          rw [QA_un _ q' q Q hq' ha]
          exact hr2
        · rw [if_neg w]
          exact h4 i q' (by omega) hq'
      · rw [upd_at, if_neg (by rw [tI_nat]; omega)]
        exact h5 i (by omega)
/-! wires joined -/
def TLA (en : EnT) (Q : List QnT) (told : Nat → Int32) : Prop := ∀ e, e < 954 → (told e = 1 ∧ TLD en Q e) ∨ (told e = 0 ∧ ¬ TLD en Q e)
set_option maxHeartbeats 400000 in
theorem TLD_mono {en : EnT} {Q : List QnT} (q : QnT) {e : Nat} (h : TLD en Q e) : TLD en (q :: Q) e := by
  obtain ⟨p, h1, h2⟩ := h
  exact ⟨p, List.mem_cons_of_mem _ h1, h2⟩
set_option maxHeartbeats 400000 in
theorem TLA_step {en : EnT} {Q : List QnT} {told t2 : Nat → Int32} (q : QnT) (a : Nat) (h : TLA en Q told) (ha : a = en q.1 q.2.1 ∨ TLD en Q a) (h2 : ∀ e, e < 954 → t2 e = if e = a ∨ e = en q.1 q.2.1 then 1 else told e) : TLA en (q :: Q) t2 := by
  intro e he
  rw [h2 e he]
  by_cases z : e = a ∨ e = en q.1 q.2.1
  · rw [if_pos z]
    refine .inl ⟨rfl, ?_⟩
    have me : TLD en (q :: Q) (en q.1 q.2.1) := ⟨q, List.mem_cons_self .., rfl⟩
    rcases z with z | z
    · rcases ha with w | w
      · rw [z, w]; exact me
      · rw [z]; exact TLD_mono q w
    · rw [z]; exact me
  · rw [if_neg z]
    rcases h e he with ⟨p1, p2⟩ | ⟨p1, p2⟩
    · exact .inl ⟨p1, TLD_mono q p2⟩
    · refine .inr ⟨p1, ?_⟩
      rintro ⟨p, m1, m2⟩
      rcases List.mem_cons.mp m1 with w | w
      · rw [w] at m2; exact z (.inr m2.symm)
      · exact p2 ⟨p, w, m2⟩
set_option maxHeartbeats 400000 in
theorem cut_last {α : Type} (A : List α) (h : A ≠ []) : ∃ A2 q, A = A2 ++ [q] := ⟨A.dropLast, A.getLast h, (List.dropLast_concat_getLast h).symm⟩
set_option maxHeartbeats 400000 in
theorem x_joinWires_2 (c_pins : Int32) (c_pinEnds : Nat → Int32) (c_pinWires : Nat → Int32) (en : EnT) (Q : List QnT) (hS : SRTq Q) (hp : c_pins.toInt = Q.length) (hE : EXq en c_pinEnds c_pinWires Q) (hlt : ∀ q ∈ Q, en q.1 q.2.1 < 954) (hl : Q.length ≤ 1334) : ∀ (n : Nat) (x1 : Int32) (c_draft_told : Nat → Int32) (c_draft_joined : Nat → Int32) (A R : List QnT), Q = A ++ R → x1.toInt = R.length → FS c_draft_joined → PRT en R (rho (jn c_draft_joined)) → TLA en R c_draft_told → Pc (f_X5_joinWires_2 c_pins c_pinEnds c_pinWires n x1 c_draft_told c_draft_joined) (fun r => FS r.2 ∧ PRT en Q (rho (jn r.2)) ∧ TLA en Q r.1)
  | 0, x1, c_draft_told, c_draft_joined, A, R, hA, hx, hF, hP, hT => pc_none
  | n + 1, x1, c_draft_told, c_draft_joined, A, R, hA, hx, hF, hP, hT => by
    unfold f_X5_joinWires_2 f_X5_joinWires_31
    have la : Q.length = A.length + R.length := by rw [hA, List.length_append]
    refine pc_if (fun a => ?_) (fun a => ?_)
    · rw [tI_le] at a
      have : A = [] := List.length_eq_zero_iff.mp (by omega)
      rw [this] at hA
      have hA' : Q = R := hA
      rw [hA']
      exact pc_some ⟨hF, hP, hT⟩
    rw [tI_le] at a
    obtain ⟨A2, q, hA2⟩ := cut_last A (fun z => by rw [z] at la; simp at la; omega)
    have hQ2 : Q = A2 ++ (q :: R) := by rw [hA, hA2, List.append_assoc]; rfl
    have hE2 := EXq_suf en c_pinEnds c_pinWires A2 (q :: R) (hQ2 ▸ hE)
    have hS2 := SRT_suf A2 (q :: R) (hQ2 ▸ hS)
    have sub : ∀ p, p ∈ q :: R → p ∈ Q := fun p hp => by rw [hQ2]; exact List.mem_append.mpr (.inr hp)
    have hq := hlt q (sub q (List.mem_cons_self ..))
    have e1 : (x1 + 1).toInt = x1.toInt + 1 := by ((try simp only [tI_lt, tI_le, tI_eq, tI_add, tI_sub, tI_mul, tI_nat, Int32.reduceToInt, Int.reduceToNat, fe_0, fe_1, fe_2, fe_3, fe_4, fe_5]) <;> (try simp (disch := omega) only [tI_bm]) <;> omega)
    have ei : x1.toNatClampNeg = R.length := by rw [tI_nat]; omega
    -- the joining
    have go62 : ∀ (y1 : Int32) (a : Nat), y1.toInt = a → a < 954 → (a = en q.1 q.2.1 ∨ TLD en R a) → (∀ p ∈ R, p.2.2 = q.2.2 → rho (jn c_draft_joined) (en p.1 p.2.1) = rho (jn c_draft_joined) a) → (∀ T, WCq en (q :: R) T → (T a → T (en q.1 q.2.1)) ∧ (T (en q.1 q.2.1) → T a)) → Pc (f_X5_joinWires_62 (f_X5_joinWires_2 c_pins c_pinEnds c_pinWires n) c_pins c_pinEnds c_pinWires x1 y1 c_draft_told c_draft_joined) (fun r => FS r.2 ∧ PRT en Q (rho (jn r.2)) ∧ TLA en Q r.1) := by
      intro y1 a hy ha hat h1 h2
      unfold f_X5_joinWires_62
      refine pc_bad (fun _ => ?_)
      rw [ei]
      refine pc_bind (x_joinTold _ _ _ _ a (en q.1 q.2.1) ha hq hy hE2.1.1 hF) (fun r2 q2 => pc_vlet ?_)
      obtain ⟨t1, t2, t3⟩ := q2
      exact x_joinWires_2 c_pins c_pinEnds c_pinWires en Q hS hp hE hlt hl n _ _ _ A2 (q :: R) hQ2 (by rw [e1, List.length_cons]; omega) t2 (PRT_step q a hP ha hq (fun p hp => hlt p (sub p (List.mem_cons_of_mem _ hp))) (MRG_if t3) h1 h2) (TLA_step q a hT hat t1)
    have self : (∀ p ∈ R, p.2.2 ≠ q.2.2) → ∀ y0 : Int32, ¬ y0 = 0 → Pc (f_X5_joinWires_36 (f_X5_joinWires_2 c_pins c_pinEnds c_pinWires n) c_pins c_pinEnds c_pinWires x1 y0 c_draft_told c_draft_joined) (fun r => FS r.2 ∧ PRT en Q (rho (jn r.2)) ∧ TLA en Q r.1) := by
      intro hne y0 hy
      unfold f_X5_joinWires_36
      rw [if_neg hy]
      refine pc_bad (fun _ => ?_)
      rw [ei]
      exact go62 _ (en q.1 q.2.1) hE2.1.1 hq (.inl rfl) (fun p hp w => absurd w (hne p hp)) (fun T _ => ⟨fun z => z, fun z => z⟩)
    refine pc_if (fun z => ?_) (fun z => ?_)
    · have : R = [] := List.length_eq_zero_iff.mp (by rw [z, l_0] at hx; omega)
      exact self (fun p hp => by rw [this] at hp; exact absurd hp (List.not_mem_nil)) 1 (by decide)
    · match R, hA, hx, hP, hT, la, hQ2, hE2, hS2, sub, ei, go62, self with
      | [], hA, hx, hP, hT, la, hQ2, hE2, hS2, sub, ei, go62, self => exact absurd (Int32.toInt_inj.mp (by rw [hx]; rfl)) z
      | q1 :: R2, hA, hx, hP, hT, la, hQ2, hE2, hS2, sub, ei, go62, self =>
        rw [List.length_cons] at hx ei
        have ej : (x1 - 1).toNatClampNeg = R2.length := by
          have : (x1 - 1).toInt = R2.length := by ((try simp only [tI_lt, tI_le, tI_eq, tI_add, tI_sub, tI_mul, tI_nat, Int32.reduceToInt, Int.reduceToNat, fe_0, fe_1, fe_2, fe_3, fe_4, fe_5]) <;> (try simp (disch := omega) only [tI_bm]) <;> omega)
          rw [tI_nat]; omega
        refine pc_bad (fun _ => pc_bad (fun _ => ?_))
        rw [ei, ej]
        have w0 := hE2.1.2
        have w1 := hE2.2.1.2
        rw [List.length_cons] at w0
        refine pc_if (fun y => ?_) (fun y => ?_)
        · have ww : q.2.2 = q1.2.2 := by rw [y] at w0; omega
          unfold f_X5_joinWires_36
          rw [if_pos rfl]
          refine pc_bad (fun _ => ?_)
          rw [ej]
          have m1 : q1 ∈ q :: q1 :: R2 := List.mem_cons_of_mem _ (List.mem_cons_self ..)
          refine go62 _ (en q1.1 q1.2.1) hE2.2.1.1 (hlt q1 (sub q1 m1)) (.inr ⟨q1, List.mem_cons_self .., rfl⟩) (fun p hp w => hP.1 p hp q1 (List.mem_cons_self ..) (w.trans ww)) (fun T hT => ⟨fun t => hT q1 m1 q (List.mem_cons_self ..) ww.symm t, fun t => hT q (List.mem_cons_self ..) q1 m1 ww t⟩)
        · refine self (fun p hp w => ?_) 1 (by decide)
          have a1 := hS2.1 q1 (List.mem_cons_self ..)
          have a2 : p.2.2 ≤ q1.2.2 := by
            rcases List.mem_cons.mp hp with z9 | z9
            · rw [z9]; exact Nat.le_refl _
            · exact hS2.2.1 p z9
          exact y (Int32.toInt_inj.mp (by omega))
