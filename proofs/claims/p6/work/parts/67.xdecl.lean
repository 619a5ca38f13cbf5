/-! what was told so far, the latest first -/
def cnt (s : Nat) : List StT → Nat
  | [] => 0
  | a :: r => cnt s r + (if a.1 = s then 1 else 0)
def tnm (a : StT) : Nat := a.2.1
def inN (v : Nat) : List StT → Bool
  | [] => false
  | a :: r => (decide (a.1 < 5) && decide (tnm a = v)) || inN v r
def mst (s : Nat) : Nat := if s = 0 then 40 else if s = 3 then 4 else 24
def okS : List StT → Bool
  | [] => true
  | a :: r => okS r && (decide (5 ≤ a.1) || (!inN (tnm a) r && decide (cnt a.1 r < mst a.1)))
/-! the class's names -/
def PN (names : Nat → Nat → Int64) : List StT → Prop
  | [] => True
  | a :: r => (a.1 < 5 → names a.1 (cnt a.1 r) = Int64.ofNat (tnm a) ∧ tnm a < 9223372036854775808 ∧ 1 ≤ tnm a) ∧ PN names r
set_option maxHeartbeats 400000 in
theorem PN_cg (n1 n2 : Nat → Nat → Int64) : ∀ S, (∀ s i, s < 5 → i < cnt s S → n2 s i = n1 s i) → PN n1 S → PN n2 S
  | [], _, _ => trivial
  | a :: r, h, hp => by
    refine ⟨fun q => ?_, PN_cg n1 n2 r (fun s i hs hi => h s i hs (by show i < cnt s r + _; omega)) hp.2⟩
    have := h a.1 (cnt a.1 r) q (by show _ < cnt a.1 r + (if a.1 = a.1 then 1 else 0); rw [if_pos rfl]; omega)
    rw [this]
    exact hp.1 q
set_option maxHeartbeats 400000 in
theorem PN_in (names : Nat → Nat → Int64) (v : Nat) : ∀ S, PN names S → inN v S = true → ∃ s i, s < 5 ∧ i < cnt s S ∧ names s i = Int64.ofNat v
  | [], _, h => by cases h
  | a :: r, hp, h => by
    have h2 : (decide (a.1 < 5) && decide (tnm a = v)) = true ∨ inN v r = true := by
      rw [← Bool.or_eq_true]; exact h
    rcases h2 with q | q
    · rw [Bool.and_eq_true, decide_eq_true_eq, decide_eq_true_eq] at q
      refine ⟨a.1, cnt a.1 r, q.1, ?_, ?_⟩
      · show _ < cnt a.1 r + (if a.1 = a.1 then 1 else 0)
        rw [if_pos rfl]; omega
      · rw [(hp.1 q.1).1, q.2]
    · obtain ⟨s, i, h1, h2, h3⟩ := PN_in names v r hp.2 q
      exact ⟨s, i, h1, by show i < cnt s r + _; omega, h3⟩
set_option maxHeartbeats 400000 in
theorem PN_out (names : Nat → Nat → Int64) (v : Nat) (hv : v < 9223372036854775808) : ∀ S, PN names S → ∀ s i, s < 5 → i < cnt s S → names s i = Int64.ofNat v → inN v S = true
  | [], _, s, i, _, h, _ => by exact absurd h (Nat.not_lt_zero _)
  | a :: r, hp, s, i, hs, hi, hn => by
    show ((decide (a.1 < 5) && decide (tnm a = v)) || inN v r) = true
    have hi' : i < cnt s r + (if a.1 = s then 1 else 0) := hi
    by_cases q : i < cnt s r
    · rw [PN_out names v hv r hp.2 s i hs q hn, Bool.or_true]
    · by_cases e : a.1 = s
      · rw [if_pos e] at hi'
        have ei : i = cnt s r := by omega
        obtain ⟨h1, h2, h3⟩ := hp.1 (by omega)
        rw [e, ← ei, hn] at h1
        have := (L_eq hv h2).mp h1
        rw [decide_eq_true (show a.1 < 5 by omega), decide_eq_true this.symm]; rfl
      · rw [if_neg e] at hi'; omega
def PB (parts : Nat → Int32) : Prop := ∀ s : Nat, s < 5 → 0 ≤ (parts s).toInt ∧ (parts s).toInt ≤ mst s
set_option maxHeartbeats 400000 in
theorem mst_le (s : Nat) : mst s ≤ 40 := by unfold mst; (repeat' split) <;> omega
set_option maxHeartbeats 400000 in
theorem s_X3_find_10 (k2 : Int64 → Int32 → Option (Int32)) (c_parts : Nat → Int32) (c_names : Nat → Nat → Int64) {Q : Int32 → Prop} (hB : PB c_parts) (x1 : Int64) (x3 : Int32) (h3 : 0 ≤ x3.toInt) (h5 : x3.toInt < 5) (hq : ∀ (i : Nat) (r : Int32), (i : Int) < (c_parts x3.toInt.toNat).toInt → c_names x3.toInt.toNat i = x1 → r.toInt = x3.toInt * 40 + i → Q r) (hk : (∀ i : Nat, (i : Int) < (c_parts x3.toInt.toNat).toInt → ¬ c_names x3.toInt.toNat i = x1) → Ok (k2 x1 (x3 + 1)) Q) : ∀ (n : Nat) (x4 : Int32), 0 ≤ x4.toInt → 100 < x4.toInt + n → x4.toInt ≤ 40 → (∀ i : Nat, (i : Int) < x4.toInt → ¬ c_names x3.toInt.toNat i = x1) → Ok (f_X3_find_10 k2 c_parts c_names n x1 x3 x4) Q
  | 0, x4, g1, g2, g3, g4 => by exfalso; omega
  | n + 1, x4, g1, g2, g3, g4 => by
    unfold f_X3_find_10
    have hb3 : 0 ≤ x3.toInt ∧ x3.toInt < (5 : Nat) := ⟨h3, h5⟩
    have pb := hB x3.toInt.toNat (by omega)
    have m40 := mst_le x3.toInt.toNat
    refine ok_bad hb3 ?_
    rw [tI_nat]
    refine ok_if (fun a => ok_vlet (hk (fun i hi => g4 i (by rw [tI_le] at a; omega)))) (fun a => ?_)
    rw [tI_le] at a
    refine ok_bad hb3 (ok_bad (by omega) ?_)
    rw [tI_nat]
    refine ok_if (fun b => ok_some (hq x4.toInt.toNat _ (by omega) ((lgc _ _).mp b) (by ((try simp only [tI_lt, tI_le, tI_eq, tI_add, tI_sub, tI_mul, tI_nat, Int32.reduceToInt, Int.reduceToNat, fe_0, fe_1, fe_2, fe_3, fe_4, fe_5]) <;> (try simp (disch := omega) only [tI_bm]) <;> omega)))) (fun b => ok_vlet ?_)
    have e4 : (x4 + 1).toInt = x4.toInt + 1 := by ((try simp only [tI_lt, tI_le, tI_eq, tI_add, tI_sub, tI_mul, tI_nat, Int32.reduceToInt, Int.reduceToNat, fe_0, fe_1, fe_2, fe_3, fe_4, fe_5]) <;> (try simp (disch := omega) only [tI_bm]) <;> omega)
    refine s_X3_find_10 k2 c_parts c_names hB x1 x3 h3 h5 hq hk n _ (by omega) (by omega) (by omega) (fun i hi => ?_)
    by_cases e : (i : Int) < x4.toInt
    · exact g4 i e
    · have : i = x4.toInt.toNat := by omega
      rw [this]; exact fun q => b ((lgc _ _).mpr q)
set_option maxHeartbeats 400000 in
theorem s_X3_find (x1 : Int64) (c_parts : Nat → Int32) (c_names : Nat → Nat → Int64) (hB : PB c_parts) : Ok (f_X3_find x1 c_parts c_names) (fun r => (r.toInt = -1 ∧ ∀ s i : Nat, s < 5 → (i : Int) < (c_parts s).toInt → ¬ c_names s i = x1) ∨ (∃ s i : Nat, s < 5 ∧ (i : Int) < (c_parts s).toInt ∧ c_names s i = x1 ∧ r.toInt = s * 40 + i)) := by
  unfold f_X3_find
  have go : ∀ (n : Nat) (x3 : Int32), 0 ≤ x3.toInt → x3.toInt ≤ 5 → 10 < x3.toInt + n → (∀ s i : Nat, (s : Int) < x3.toInt → (i : Int) < (c_parts s).toInt → ¬ c_names s i = x1) → Ok (f_X3_find_2 c_parts c_names n x1 x3) (fun r => (r.toInt = -1 ∧ ∀ s i : Nat, s < 5 → (i : Int) < (c_parts s).toInt → ¬ c_names s i = x1) ∨ (∃ s i : Nat, s < 5 ∧ (i : Int) < (c_parts s).toInt ∧ c_names s i = x1 ∧ r.toInt = s * 40 + i)) := by
    intro n
    induction n with
    | zero => intro x3 h1 h2 h3; exfalso; omega
    | succ n ih =>
      intro x3 h1 h2 h3 h4
      unfold f_X3_find_2
      refine ok_if (fun a => ok_some (.inl ⟨by decide, fun s i hs hi => h4 s i (by rw [tI_le, show (5 : Int32).toInt = 5 from by decide] at a; omega) hi⟩)) (fun a => ?_)
      rw [tI_le, show (5 : Int32).toInt = 5 from by decide] at a
      have e3 : (x3 + 1).toInt = x3.toInt + 1 := by ((try simp only [tI_lt, tI_le, tI_eq, tI_add, tI_sub, tI_mul, tI_nat, Int32.reduceToInt, Int.reduceToNat, fe_0, fe_1, fe_2, fe_3, fe_4, fe_5]) <;> (try simp (disch := omega) only [tI_bm]) <;> omega)
      refine s_X3_find_10 _ c_parts c_names hB x1 x3 h1 (by omega) (fun i r g1 g2 g3 => .inr ⟨x3.toInt.toNat, i, by omega, g1, g2, by omega⟩) (fun hn => ?_) FU 0 (by decide) (by rw [FU_eq]; decide) (by decide) (fun i hi => by rw [show (0 : Int32).toInt = 0 from by decide] at hi; omega)
      refine ih (x3 + 1) (by omega) (by omega) (by omega) (fun s i hs hi => ?_)
      by_cases e : (s : Int) < x3.toInt
      · exact h4 s i e hi
      · have : s = x3.toInt.toNat := by omega
        rw [this] at hi ⊢
        exact hn i hi
  exact go FU 0 (by decide) (by decide) (by rw [FU_eq]; decide) (fun s i hs => by rw [show (0 : Int32).toInt = 0 from by decide] at hs; omega)
/-! a part is told -/
def DS (fM fT : Int32) (parts : Nat → Int32) (names : Nat → Nat → Int64) (S : List StT) : Prop := PB parts ∧ (fT = -1 ∨ 0 ≤ fT.toInt) ∧ ((okS S = true ∧ fM = -1 ∧ fT = -1 ∧ (∀ s : Nat, s < 5 → (parts s).toInt = cnt s S) ∧ PN names S) ∨ (okS S = false ∧ ¬ (fM = -1 ∧ fT = -1)))
set_option maxHeartbeats 400000 in
theorem mst_MO {s : Nat} (h : s < 5) : (cMO s).toInt = mst s := by
  have : s = 0 ∨ s = 1 ∨ s = 2 ∨ s = 3 ∨ s = 4 := by omega
  rcases this with e | e | e | e | e <;> subst e <;> decide
set_option maxHeartbeats 400000 in
theorem s_X3_add (x1 : Int32) (x2 : Int64) (c_parts : Nat → Int32) (c_names : Nat → Nat → Int64) (hB : PB c_parts) (h1 : 0 ≤ x1.toInt) (h2 : x1.toInt < 5) : Ok (f_X3_add x1 x2 c_parts c_names) (fun r => ((c_parts x1.toInt.toNat).toInt < mst x1.toInt.toNat ∧ r.1 = c_parts x1.toInt.toNat ∧ r.2.1 = upd c_parts x1.toInt.toNat (c_parts x1.toInt.toNat + 1) ∧ r.2.2 = updG c_names x1.toInt.toNat (c_parts x1.toInt.toNat).toInt.toNat x2) ∨ ((c_parts x1.toInt.toNat).toInt = mst x1.toInt.toNat ∧ r.1 = -1 ∧ r.2.1 = c_parts ∧ r.2.2 = c_names)) := by
  unfold f_X3_add
  have hb : 0 ≤ x1.toInt ∧ x1.toInt < (5 : Nat) := ⟨h1, h2⟩
  have pb := hB x1.toInt.toNat (by omega)
  have mo := mst_MO (show x1.toInt.toNat < 5 by omega)
  have m40 := mst_le x1.toInt.toNat
  refine ok_if (fun a => by exfalso; rw [tI_lt, show (0 : Int32).toInt = 0 from by decide] at a; omega) (fun _ => ok_if (fun a => by exfalso; rw [tI_le, show (5 : Int32).toInt = 5 from by decide] at a; omega) (fun _ => ok_bad hb (ok_bad hb ?_)))
  rw [tI_nat]
  refine ok_if (fun a => ?_) (fun a => ok_some (.inr ⟨by rw [tI_lt, mo] at a; omega, rfl, rfl, rfl⟩))
  rw [tI_lt, mo] at a
  refine ok_bad hb (ok_vlet (ok_bad hb (ok_bad (by omega) (ok_vlet (ok_bad hb (ok_vlet (ok_bad hb (ok_vlet (ok_some (.inl ⟨a, rfl, rfl, rfl⟩)))))))))) 
set_option maxHeartbeats 400000 in
theorem updG_at (f : Nat → Nat → Int64) (j k : Nat) (x : Int64) (a b : Nat) : updG f j k x a b = if a = j then (if b = k then x else f j b) else f a b := by
  unfold updG
  by_cases h : a = j
  · rw [if_pos h, if_pos h]; rfl
  · rw [if_neg h, if_neg h]
set_option maxHeartbeats 400000 in
theorem s_declare (x1 : Int32) (c_firstMany : Int32) (c_firstTwice : Int32) (c_nameAt : Int32) (c_tokens_places : Nat → Int32) (c_tokens_values : Nat → Int64) (c_draft_parts : Nat → Int32) (c_draft_names : Nat → Nat → Int64) (S : List StT) (st : StT) (h1 : 0 ≤ x1.toInt) (h2 : x1.toInt < 5) (hst : st.1 = x1.toInt.toNat) (hn : 0 ≤ c_nameAt.toInt ∧ c_nameAt.toInt < 4001) (hv : c_tokens_values c_nameAt.toInt.toNat = Int64.ofNat (tnm st)) (hv2 : tnm st < 9223372036854775808 ∧ 1 ≤ tnm st) (hpl : 0 ≤ (c_tokens_places c_nameAt.toInt.toNat).toInt) (hD : DS c_firstMany c_firstTwice c_draft_parts c_draft_names S) : Ok (f_X5_declare x1 c_firstMany c_firstTwice c_nameAt c_tokens_places c_tokens_values c_draft_parts c_draft_names) (fun r => DS r.2.1 r.2.2.1 r.2.2.2.1 r.2.2.2.2 (st :: S) ∧ (r.1 = -1 ∨ 0 ≤ r.1.toInt ∧ r.1.toInt < 40) ∧ (okS (st :: S) = true → r.1.toInt = cnt st.1 S)) := by
  unfold f_X5_declare
  have hD' := hD
  obtain ⟨hB, hT, hD2⟩ := hD'
  have pb := hB x1.toInt.toNat (by omega)
  have m40 := mst_le x1.toInt.toNat
  have pne : ∀ i : Nat, i = c_nameAt.toInt.toNat → ¬ c_tokens_places i = -1 := fun i hi q => by
    rw [hi] at q
    rw [q] at hpl
    exact absurd hpl (by decide)
  refine ok_bad hn (ok_vlet ?_)
  rw [tI_nat, hv]
  -- what the flag of a name told twice means
  have tail : ∀ (fT : Int32) (x4 : Int32), (fT = -1 ∨ 0 ≤ fT.toInt) → (x4 = 0 ∨ x4 = 1) → (okS S = true → (x4 = 0 ↔ inN (tnm st) S = false) ∧ (fT = -1 ↔ x4 = 0) ∧ c_firstMany = -1) → (okS S = false → ¬ (c_firstMany = -1 ∧ fT = -1)) → Ok (f_X5_declare_61 c_nameAt c_tokens_places c_tokens_values x1 (Int64.ofNat (tnm st)) x4 c_firstMany fT c_draft_parts c_draft_names) (fun r => DS r.2.1 r.2.2.1 r.2.2.2.1 r.2.2.2.2 (st :: S) ∧ (r.1 = -1 ∨ 0 ≤ r.1.toInt ∧ r.1.toInt < 40) ∧ (okS (st :: S) = true → r.1.toInt = cnt st.1 S)) := by
    intro fT x4 hfT hx hok hbad
    have go76 : ∀ y2 : Int64, (x4 = 0 → y2 = Int64.ofNat (tnm st)) → Ok (f_X5_declare_76 c_nameAt c_tokens_places c_tokens_values x1 y2 c_firstMany fT c_draft_parts c_draft_names) (fun r => DS r.2.1 r.2.2.1 r.2.2.2.1 r.2.2.2.2 (st :: S) ∧ (r.1 = -1 ∨ 0 ≤ r.1.toInt ∧ r.1.toInt < 40) ∧ (okS (st :: S) = true → r.1.toInt = cnt st.1 S)) := by
      intro y2 hy
      unfold f_X5_declare_76
      have okc : okS (st :: S) = (okS S && (!inN (tnm st) S && decide (cnt st.1 S < mst st.1))) := by
        show (okS S && (decide (5 ≤ st.1) || (!inN (tnm st) S && decide (cnt st.1 S < mst st.1)))) = _
        rw [decide_eq_false (show ¬ 5 ≤ st.1 by omega), Bool.false_or]
      refine ok_bind (s_X3_add _ _ _ _ hB h1 h2) (fun r1 hr => ?_)
      rcases hr with ⟨g1, g2, g3, g4⟩ | ⟨g1, g2, g3, g4⟩
      · have rn : ¬ r1.1 = -1 := fun q => by
          rw [g2] at q
          rw [q] at pb
          exact absurd pb.1 (by decide)
        have ep1 : (c_draft_parts x1.toInt.toNat + 1).toInt = (c_draft_parts x1.toInt.toNat).toInt + 1 := by
          generalize c_draft_parts x1.toInt.toNat = z at pb g1
          ((try simp only [tI_lt, tI_le, tI_eq, tI_add, tI_sub, tI_mul, tI_nat, Int32.reduceToInt, Int.reduceToNat, fe_0, fe_1, fe_2, fe_3, fe_4, fe_5]) <;> (try simp (disch := omega) only [tI_bm]) <;> omega)
        refine ok_if (fun q => absurd q rn) (fun _ => ok_some ⟨⟨?_, hfT, ?_⟩, .inr ⟨by rw [g2]; exact pb.1, by rw [g2]; omega⟩, fun q => ?_⟩)
        · intro s hs
          rw [g3, upd_at]
          by_cases e : s = x1.toInt.toNat
          · rw [if_pos e, ep1, e]; omega
          · rw [if_neg e]; exact hB s hs
        · rw [okc]
          rcases hD2 with ⟨d1, d2, d3, d4, d5⟩ | ⟨d1, d2⟩
          · obtain ⟨k1, k2, k3⟩ := hok d1
            have d4x := d4 x1.toInt.toNat (by omega)
            have hc : cnt st.1 S < mst st.1 := by rw [hst]; omega
            rw [d1, decide_eq_true hc, Bool.true_and, Bool.and_true]
            by_cases z : inN (tnm st) S = false
            · rw [z]
              have x40 := k1.mpr z
              refine .inl ⟨rfl, k3, k2.mpr x40, fun s hs => ?_, ?_⟩
              · rw [g3, upd_at]
                show _ = ((cnt s S + (if st.1 = s then 1 else 0) : Nat) : Int)
                by_cases e : s = x1.toInt.toNat
                · rw [if_pos e, ep1, if_pos (by omega), d4x, e]; omega
                · rw [if_neg e, if_neg (by omega), d4 s hs]; omega
              · refine ⟨fun _ => ⟨?_, hv2.1, hv2.2⟩, PN_cg c_draft_names _ S (fun s i hs hi => ?_) d5⟩
                · rw [g4, updG_at, hst, if_pos rfl, if_pos (by omega)]
                  exact hy x40
                · rw [g4, updG_at]
                  by_cases e : s = x1.toInt.toNat
                  · rw [if_pos e, if_neg (by rw [e] at hi; omega), e]
                  · rw [if_neg e]
            · have z' : inN (tnm st) S = true := by
                cases h : inN (tnm st) S with
                | true => rfl
                | false => exact absurd h z
              rw [z']
              refine .inr ⟨rfl, fun q => ?_⟩
              exact z (k1.mp (k2.mp q.2))
          · rw [d1]
            exact .inr ⟨rfl, hbad d1⟩
        · rw [okc, Bool.and_eq_true] at q
          rcases hD2 with ⟨d1, d2, d3, d4, d5⟩ | ⟨d1, d2⟩
          · rw [g2, hst]; exact d4 _ (by omega)
          · rw [d1] at q; exact absurd q.1 (by decide)
      · have okf : okS (st :: S) = false := by
          rw [okc]
          rcases hD2 with ⟨d1, d2, d3, d4, d5⟩ | ⟨d1, d2⟩
          · have d4x := d4 x1.toInt.toNat (by omega)
            have hc : ¬ cnt st.1 S < mst st.1 := by rw [hst]; omega
            rw [decide_eq_false hc, Bool.and_false, Bool.and_false]
          · rw [d1, Bool.false_and]
        refine ok_if (fun _ => ok_if (fun a => ok_bad hn (ok_vlet (ok_some ⟨⟨by rw [g3]; exact hB, hfT, .inr ⟨okf, fun q => ?_⟩⟩, .inl g2, fun q => by rw [okf] at q; cases q⟩))) (fun a => ok_some ⟨⟨by rw [g3]; exact hB, hfT, .inr ⟨okf, fun q => a q.1⟩⟩, .inl g2, fun q => by rw [okf] at q; cases q⟩)) (fun q => absurd g2 q)
        exact pne _ rfl q.1
    unfold f_X5_declare_61
    exact ok_if (fun e => go76 _ (fun _ => rfl)) (fun e => go76 _ (fun q => absurd q e))
  refine ok_bind (s_X3_find _ _ _ hB) (fun r3 hr => ?_)
  rcases hr with ⟨g1, g2⟩ | ⟨s, i, g1, g2, g3, g4⟩
  · have e : r3 = -1 := Int32.toInt_inj.mp (by rw [g1]; decide)
    rw [if_pos e]
    unfold f_X5_declare_30
    rw [if_pos rfl]
    refine tail _ 0 hT (.inl rfl) (fun k => ?_) (fun k => ?_)
    · rcases hD2 with ⟨d1, d2, d3, d4, d5⟩ | ⟨d1, d2⟩
      · refine ⟨⟨fun _ => ?_, fun _ => rfl⟩, ⟨fun _ => rfl, fun _ => d3⟩, d2⟩
        cases h : inN (tnm st) S with
        | false => rfl
        | true =>
          obtain ⟨s, i, p1, p2, p3⟩ := PN_in _ _ S d5 h
          exact absurd p3 (g2 s i p1 (by rw [d4 s p1]; omega))
      · rw [d1] at k; cases k
    · rcases hD2 with ⟨d1, d2, d3, d4, d5⟩ | ⟨d1, d2⟩
      · rw [d1] at k; cases k
      · exact d2
  · have e : ¬ r3 = -1 := fun q => by rw [q, show (-1 : Int32).toInt = -1 from by decide] at g4; omega
    rw [if_neg e]
    unfold f_X5_declare_30
    rw [if_neg (by decide)]
    have inn : okS S = true → inN (tnm st) S = true ∧ c_firstTwice = -1 ∧ c_firstMany = -1 := fun k => by
      rcases hD2 with ⟨d1, d2, d3, d4, d5⟩ | ⟨d1, d2⟩
      · exact ⟨PN_out _ _ hv2.1 S d5 s i g1 (by have := d4 s g1; omega) g3, d3, d2⟩
      · rw [d1] at k; cases k
    have dbad : okS S = false → ¬ (c_firstMany = -1 ∧ c_firstTwice = -1) := fun k => by
      rcases hD2 with ⟨d1, d2, d3, d4, d5⟩ | ⟨d1, d2⟩
      · rw [d1] at k; cases k
      · exact d2
    refine ok_if (fun a => ok_bad hn (ok_vlet (tail _ 1 (.inr hpl) (.inr rfl) (fun k => ?_) (fun k q => pne _ rfl q.2)))) (fun a => tail _ 1 hT (.inr rfl) (fun k => absurd (inn k).2.1 a) dbad)
    refine ⟨⟨fun q => absurd q (by decide), fun q => by rw [(inn k).1] at q; cases q⟩, ⟨fun q => absurd q (pne _ rfl), fun q => absurd q (by decide)⟩, (inn k).2.2⟩
