def FrM (φ : Nat) (many nameSize one two kinds bits names many2 nameSize2 one2 two2 kinds2 bits2 names2 : Nat → Int32) : Prop := (∀ i, ¬ (5 * φ ≤ i ∧ i < 5 * φ + 5) → many2 i = many i) ∧ (∀ i, ¬ (116 * φ ≤ i ∧ i < 116 * φ + 116) → nameSize2 i = nameSize i ∧ one2 i = one i ∧ two2 i = two i ∧ kinds2 i = kinds i ∧ bits2 i = bits i) ∧ (∀ i, ¬ (928 * φ ≤ i ∧ i < 928 * φ + 928) → names2 i = names i)
def GB (nameSize kinds : Nat → Int32) : Prop := ∀ i : Nat, i < 232 → (0 ≤ (nameSize i).toInt ∧ (nameSize i).toInt ≤ 8) ∧ 0 ≤ (kinds i).toInt ∧ (kinds i).toInt ≤ 6
def DMs (φ : Nat) (fault : Int32) (many nameSize names one two kinds bits : Nat → Int32) (S : List StT) : Prop := (∀ s : Nat, s < 5 → 0 ≤ (many (5 * φ + s)).toInt ∧ (many (5 * φ + s)).toInt ≤ mst s) ∧ ((okC S = true ∧ fault = 0 ∧ (∀ s : Nat, s < 5 → (many (5 * φ + s)).toInt = cnt s S) ∧ PMr φ nameSize names one two kinds bits S) ∨ (okC S = false ∧ fault = 2))
def pPart (s : Nat) (l : List TkT) : Option (StT × List TkT) := if isNm l = true then
    (if s = 0 then (if isNr l.tail 1 20 = true ∧ isNr l.tail.tail 1 20 = true then some (RelSt l, (pKinds 6 0 0 l.tail.tail.tail).2.2) else none)
     else if s = 3 then (if isNr l.tail 2 100 = true ∧ isNr l.tail.tail 1 ((hd l.tail).2.1 - 1) = true then some (ClkSt l, l.tail.tail.tail) else none)
     else some ((s, (hd l).2.1, 0, 0, 0, 0, []), l.tail))
  else none
def PartM (t : Nat → Int32) (L φ : Nat) (kd pl sz : Nat → Int32) (vl : Nat → Int64) (many nameSize one two kinds bits names : Nat → Int32) (S : List StT) (o : Option (StT × List TkT)) (at2 f2 : Int32) (many2 nameSize2 one2 two2 kinds2 bits2 names2 : Nat → Int32) : Prop := FrM φ many nameSize one two kinds bits names many2 nameSize2 one2 two2 kinds2 bits2 names2 ∧ GB nameSize2 kinds2 ∧ match o with
  | none => f2 = 1
  | some (st, r) => KM t L kd pl sz vl at2 r ∧ DMs φ f2 many2 nameSize2 names2 one2 two2 kinds2 bits2 (st :: S)
set_option maxHeartbeats 400000 in
theorem ok_eq2 {α : Type} {o : Option α} {a : α} {Q : α → Prop} (e : o = some a) (k : Q a) : Ok o Q := ⟨a, e, k⟩
set_option maxHeartbeats 400000 in
theorem s_most (x : Int32) (s : Nat) (h : x.toInt = s) (hs : s < 5) : ∃ m : Int32, f_X11_most x = some m ∧ m.toInt = mst s := by
  have : s = 0 ∨ s = 1 ∨ s = 2 ∨ s = 3 ∨ s = 4 := by omega
  have e : ∀ k : Int32, k.toInt = s → x = k := fun k hk => Int32.toInt_inj.mp (by rw [h, hk])
  rcases this with z | z | z | z | z <;> subst z
  · rw [e 0 (by decide)]; exact ⟨40, rfl, by decide⟩
  · rw [e 1 (by decide)]; exact ⟨24, rfl, by decide⟩
  · rw [e 2 (by decide)]; exact ⟨24, rfl, by decide⟩
  · rw [e 3 (by decide)]; exact ⟨4, rfl, by decide⟩
  · rw [e 4 (by decide)]; exact ⟨24, rfl, by decide⟩
set_option maxHeartbeats 400000 in
theorem s_first (x : Int32) (s : Nat) (h : x.toInt = s) (hs : s < 5) : ∃ m : Int32, f_X11_first x = some m ∧ m.toInt = fstS s := by
  have : s = 0 ∨ s = 1 ∨ s = 2 ∨ s = 3 ∨ s = 4 := by omega
  have e : ∀ k : Int32, k.toInt = s → x = k := fun k hk => Int32.toInt_inj.mp (by rw [h, hk])
  rcases this with z | z | z | z | z <;> subst z
  · rw [e 0 (by decide)]; exact ⟨0, rfl, by decide⟩
  · rw [e 1 (by decide)]; exact ⟨40, rfl, by decide⟩
  · rw [e 2 (by decide)]; exact ⟨64, rfl, by decide⟩
  · rw [e 3 (by decide)]; exact ⟨88, rfl, by decide⟩
  · rw [e 4 (by decide)]; exact ⟨92, rfl, by decide⟩
/-! what the last step leaves: the numbers stored or not -/
set_option maxHeartbeats 400000 in
theorem fin_331 (t : Nat → Int32) (L φ s p : Nat) (hφ : φ ≤ 1) (hs : s < 5) (hp : 116 * φ ≤ p ∧ p < 116 * φ + 116) (kd pl sz : Nat → Int32) (vl : Nat → Int64) (many nameSize one two kinds bits names many1 nameSize1 names1 : Nat → Int32) (S : List StT) (o : Option (StT × List TkT)) (hF : FrM φ many nameSize one two kinds bits names many1 nameSize1 one two kinds bits names1) (hG : GB nameSize1 kinds) (at2 f2 x5 x6 x7 x8 : Int32) (hx7 : 0 ≤ x7.toInt ∧ x7.toInt ≤ 6) (hnone : o = none → f2 = 1) (hsome : ∀ st r, o = some (st, r) → KM t L kd pl sz vl at2 r ∧ DMs φ f2 many1 nameSize1 names1 (upd one p x5) (upd two p x6) (upd kinds p x7) (upd bits p x8) (st :: S)) : PartM t L φ kd pl sz vl many nameSize one two kinds bits names S o at2 f2 many1 nameSize1 (upd one p x5) (upd two p x6) (upd kinds p x7) (upd bits p x8) names1 := by
  refine ⟨⟨hF.1, fun i hi => ?_, hF.2.2⟩, fun i hi => ⟨(hG i hi).1, ?_⟩, ?_⟩
  · have := hF.2.1 i hi
    rw [upd_at, upd_at, upd_at, upd_at, if_neg (by omega), if_neg (by omega), if_neg (by omega), if_neg (by omega)]
    exact this
  · rw [upd_at]
    split
    · exact hx7
    · exact (hG i hi).2
  · cases o with
    | none => exact hnone rfl
    | some y => exact hsome y.1 y.2 rfl
set_option maxHeartbeats 400000 in
theorem okC_cons (st : StT) (S : List StT) (h : st.1 < 5) : okC (st :: S) = (okC S && decide (cnt st.1 S < mst st.1)) := by
  show (okC S && (decide (5 ≤ st.1) || decide (cnt st.1 S < mst st.1))) = _
  rw [decide_eq_false (show ¬ 5 ≤ st.1 by omega), Bool.false_or]
set_option maxHeartbeats 400000 in
theorem pk_cg (f g : Nat → Nat) : ∀ m, (∀ j, j < m → f j = g j) → pk f m = pk g m
  | 0, _ => rfl
  | m + 1, h => by
    show pk f m * 256 + f m = pk g m * 256 + g m
    rw [pk_cg f g m (fun j hj => h j (by omega)), h m (by omega)]
set_option maxHeartbeats 400000 in
theorem newDMs (φ s p n : Nat) (hs : s < 5) (fault i0 : Int32) (many nameSize one two kinds bits names nameSize1 one1 two1 kinds1 bits1 names1 : Nat → Int32) (S : List StT) (st : StT) (hst : st.1 = s) (hD : DMs φ fault many nameSize names one two kinds bits S) (hi : i0 = many (5 * φ + s)) (hlt : i0.toInt < mst s) (hp : p = 116 * φ + fstS s + i0.toInt.toNat) (hns : ∀ i, i ≠ p → nameSize1 i = nameSize i) (hnm : ∀ i, ¬ (8 * p ≤ i ∧ i < 8 * p + 8) → names1 i = names i) (hn : n ≤ 8) (hn2 : (nameSize1 p).toInt = n) (hv : tnm st = pk (fun j => (names1 (8 * p + j)).toInt.toNat) n) (hb : ∀ j, j < n → 1 ≤ (names1 (8 * p + j)).toInt ∧ (names1 (8 * p + j)).toInt < 128) (ho : ∀ i, i ≠ p → one1 i = one i ∧ two1 i = two i ∧ kinds1 i = kinds i ∧ bits1 i = bits i) (h0 : s = 0 → (one1 p).toInt = st.2.2.1 ∧ (two1 p).toInt = st.2.2.2.1 ∧ (kinds1 p).toInt = nkd st ∧ (bits1 p).toInt = st.2.2.2.2.2.1) (h3 : s = 3 → (one1 p).toInt = st.2.2.1 ∧ (two1 p).toInt = st.2.2.2.1) : DMs φ fault (upd many (5 * φ + s) (i0 + 1)) nameSize1 names1 one1 two1 kinds1 bits1 (st :: S) := by
  obtain ⟨hB, hD2⟩ := hD
  have bs := hB s hs
  rw [← hi] at bs
  have m40 := mst_le s
  have ei : (i0 + 1).toInt = i0.toInt + 1 := by ((try simp only [tI_lt, tI_le, tI_eq, tI_add, tI_sub, tI_mul, tI_nat, Int32.reduceToInt, Int.reduceToNat, fe_0, fe_1, fe_2, fe_3, fe_4, fe_5]) <;> (try simp (disch := omega) only [tI_bm]) <;> omega)
  refine ⟨fun u hu => ?_, ?_⟩
  · rw [upd_at]
    by_cases e : 5 * φ + u = 5 * φ + s
    · have : u = s := by omega
      rw [if_pos e, ei, this]; omega
    · rw [if_neg e]; exact hB u hu
  · rw [okC_cons st S (by omega), hst]
    rcases hD2 with ⟨d1, d2, d3, d4⟩ | ⟨d1, d2⟩
    · have ds := d3 s hs
      rw [← hi] at ds
      rw [d1, decide_eq_true (show cnt s S < mst s by omega)]
      refine .inl ⟨rfl, d2, fun u hu => ?_, fun _ => ?_, ?_⟩
      · show _ = ((cnt u S + (if st.1 = u then 1 else 0) : Nat) : Int)
        rw [upd_at]
        by_cases e : 5 * φ + u = 5 * φ + s
        · have : u = s := by omega
          rw [if_pos e, ei, this, if_pos hst]; omega
        · rw [if_neg e, if_neg (by omega), d3 u hu]; omega
      · have ep : 116 * φ + fstS st.1 + cnt st.1 S = p := by rw [hst, hp]; omega
        rw [ep, hst]
        exact ⟨⟨n, hn, hn2, hv, hb⟩, h0, h3⟩
      · refine PMr_cg φ nameSize nameSize1 names names1 one one1 two two1 kinds kinds1 bits bits1 p S d1 (fun u i hu hi2 => ?_) (fun i hi2 => ⟨hns i hi2, ho i hi2⟩) hnm d4
        have c1 := okC_cnt u hu S d1
        have ne := fst_ne hu hs i i0.toInt.toNat (by omega) (by omega) (fun q => by rw [q.1] at hi2; omega)
        omega
    · rw [d1]
      exact .inr ⟨rfl, d2⟩
set_option maxHeartbeats 400000 in
theorem s_part (x1 : Int32) (c_at : Int32) (c_fault : Int32) (c_faultAt : Int32) (c_fresh : Int32) (c_text : Nat → Int32) (c_tKind : Nat → Int32) (c_tPlace : Nat → Int32) (c_tSize : Nat → Int32) (c_tValue : Nat → Int64) (c_many : Nat → Int32) (c_nameSize : Nat → Int32) (c_one : Nat → Int32) (c_two : Nat → Int32) (c_kinds : Nat → Int32) (c_kindBits : Nat → Int32) (c_names : Nat → Int32) (L φ s : Nat) (hφ : φ ≤ 1) (hfr : c_fresh.toInt = φ) (hL : L ≤ 4000) (hs : s < 5) (hx : x1.toInt = s) (l : List TkT) (h : KM c_text L c_tKind c_tPlace c_tSize c_tValue c_at l) (hh : (hd l).1 = 1) (S : List StT) (hG : GB c_nameSize c_kinds) (hD : DMs φ c_fault c_many c_nameSize c_names c_one c_two c_kinds c_kindBits S) : Ok (f_X11_part x1 c_at c_fault c_faultAt c_fresh c_text c_tKind c_tPlace c_tSize c_tValue c_many c_nameSize c_one c_two c_kinds c_kindBits c_names) (fun r => PartM c_text L φ c_tKind c_tPlace c_tSize c_tValue c_many c_nameSize c_one c_two c_kinds c_kindBits c_names S (pPart s l.tail) r.1 r.2.1 r.2.2.2.1 r.2.2.2.2.1 r.2.2.2.2.2.1 r.2.2.2.2.2.2.1 r.2.2.2.2.2.2.2.1 r.2.2.2.2.2.2.2.2.1 r.2.2.2.2.2.2.2.2.2) := by
  have hf1 : ¬ c_fault = 1 := fun q => by
    rcases hD.2 with ⟨-, z, -⟩ | ⟨-, z⟩
    · rw [q] at z; exact absurd z (by decide)
    · rw [q] at z; exact absurd z (by decide)
  have n1 := (KM_next h (.inl hh)).1
  obtain ⟨b2, b3, b4, b5, b6⟩ := KM_hd n1
  have frr : FrM φ c_many c_nameSize c_one c_two c_kinds c_kindBits c_names c_many c_nameSize c_one c_two c_kinds c_kindBits c_names := ⟨fun _ _ => rfl, fun _ _ => ⟨rfl, rfl, rfl, rfl, rfl⟩, fun _ _ => rfl⟩
  unfold f_X11_part
  refine ok_vlet (ok_eq (e_isName _ _ _ _ c_text L c_tPlace c_tSize l.tail n1) ?_)
  by_cases nm : isNm l.tail = true
  · rw [i01_t hf1 nm, if_neg (by decide)]
    have nmm := (isNm_t _).mp nm
    obtain ⟨mm1, mm2, mm3⟩ := b4
    obtain ⟨t1, t2, t3, t4, t5⟩ := mm3 nmm.1
    have tv : (hd l.tail).2.2 ≤ 8 := by
      rcases b6 with q | q | q
      · rcases q.1 with z | z | z
        · exact z.2.2.2.2.1
        · omega
        · omega
      · omega
      · omega
    have m40 := mst_le s
    have bs := hD.1 s hs
    have e5 : (5 * c_fresh + x1).toInt = 5 * φ + x1.toInt := by ((try simp only [tI_lt, tI_le, tI_eq, tI_add, tI_sub, tI_mul, tI_nat, Int32.reduceToInt, Int.reduceToNat, fe_0, fe_1, fe_2, fe_3, fe_4, fe_5]) <;> (try simp (disch := omega) only [tI_bm]) <;> omega)
    have i5 : (5 * c_fresh + x1).toNatClampNeg = 5 * φ + s := by rw [tI_nat, e5]; omega
    have hb5 : 0 ≤ (5 * c_fresh + x1).toInt ∧ (5 * c_fresh + x1).toInt < (10 : Nat) := by omega
    obtain ⟨mo, q1, q2⟩ := s_most x1 s hx hs
    obtain ⟨fo, q3, q4⟩ := s_first x1 s hx hs
    have f116 := fst_add hs 0 (by have a : s = 0 ∨ s = 1 ∨ s = 2 ∨ s = 3 ∨ s = 4 := by omega
                                  rcases a with e | e | e | e | e <;> subst e <;> decide)
    refine ok_bad hb5 (ok_vlet (ok_eq q1 ?_))
    rw [i5]
    have e116 : (116 * c_fresh + fo).toInt = 116 * φ + fstS s := by ((try simp only [tI_lt, tI_le, tI_eq, tI_add, tI_sub, tI_mul, tI_nat, Int32.reduceToInt, Int.reduceToNat, fe_0, fe_1, fe_2, fe_3, fe_4, fe_5]) <;> (try simp (disch := omega) only [tI_bm]) <;> omega)
    have xs : ∀ k : Int32, k.toInt = s → x1 = k := fun k hk => Int32.toInt_inj.mp (by rw [hx, hk])
    by_cases room : mo ≤ c_many (5 * φ + s)
    · rw [if_pos room]
      rw [tI_le, q2] at room
      unfold f_X11_part_49 f_X11_part_79 f_X11_part_100
      -- one too many: fault 2 at the latest, nothing is stored
      have nok : ∀ st : StT, st.1 = s → DMs φ 2 c_many c_nameSize c_names c_one c_two c_kinds c_kindBits (st :: S) := by
        intro st hst
        refine ⟨hD.1, .inr ⟨?_, rfl⟩⟩
        rw [okC_cons st S (by omega), hst]
        rcases hD.2 with ⟨d1, d2, d3, d4⟩ | ⟨d1, d2⟩
        · have := d3 s hs
          rw [decide_eq_false (show ¬ cnt s S < mst s by omega), Bool.and_false]
        · rw [d1, Bool.false_and]
      have go : ∀ c_faultAt : Int32, Ok ((f_X11_first x1).bind fun r1 => if (0 : Int32) = 0 then vlet (116 * c_fresh + r1 + 0) fun t1 => if (0 : Int32) = 0 then (f_X11_part_193 c_fresh c_text c_tKind c_tPlace c_tSize c_tValue x1 0 t1 (c_at + 1) 2 c_faultAt c_many c_nameSize c_one c_two c_kinds c_kindBits c_names) else none else none) (fun r => PartM c_text L φ c_tKind c_tPlace c_tSize c_tValue c_many c_nameSize c_one c_two c_kinds c_kindBits c_names S (pPart s l.tail) r.1 r.2.1 r.2.2.2.1 r.2.2.2.2.1 r.2.2.2.2.2.1 r.2.2.2.2.2.2.1 r.2.2.2.2.2.2.2.1 r.2.2.2.2.2.2.2.2.1 r.2.2.2.2.2.2.2.2.2) := by
        intro cfa
        refine ok_eq q3 ?_
        rw [if_pos rfl]
        refine ok_vlet ?_
        rw [if_pos rfl]
        refine s_193 _ _ _ _ _ _ _ _ _ _ _ _ _ _ _ _ _ _ _ c_text L l.tail n1 nmm.1 (by decide) (fun a b ca hca => ?_) (fun a b c ca hca cf => ?_) (fun a b c ca hca cf => ?_) (fun a ca cf y5 y6 => ?_)
        · have s0 : ¬ s = 0 := fun q => a (xs 0 (by rw [q]; decide))
          have s3 : ¬ s = 3 := fun q => b (xs 3 (by rw [q]; decide))
          refine ⟨frr, hG, ?_⟩
          unfold pPart
          rw [if_pos nm, if_neg s0, if_neg s3]
          exact ⟨hca, nok _ rfl⟩
        · have s0 : s = 0 := by rw [a, show (0 : Int32).toInt = 0 from by decide] at hx; omega
          refine ok_eq2 (e_331 _ _ _ _ _ _ _ _ _ _ _ _ _ _ _ _ _ _ _ _ _ _ (.inl rfl)) ?_
          rw [if_pos rfl]
          refine ⟨frr, hG, ?_⟩
          unfold pPart
          rw [if_pos nm, if_pos s0, if_pos ⟨b, c⟩]
          exact ⟨hca, nok _ s0.symm⟩
        · have s3 : s = 3 := by rw [a, show (3 : Int32).toInt = 3 from by decide] at hx; omega
          refine ok_eq2 (e_331 _ _ _ _ _ _ _ _ _ _ _ _ _ _ _ _ _ _ _ _ _ _ (.inl rfl)) ?_
          rw [if_pos rfl]
          refine ⟨frr, hG, ?_⟩
          unfold pPart
          rw [if_pos nm, if_neg (by omega), if_pos s3, if_pos ⟨b, c⟩]
          exact ⟨hca, nok _ s3.symm⟩
        · refine ok_eq2 (e_331 _ _ _ _ _ _ _ _ _ _ _ _ _ _ _ _ _ _ _ _ _ _ (.inl rfl)) ?_
          rw [if_pos rfl]
          refine ⟨frr, hG, ?_⟩
          unfold pPart
          rw [if_pos nm]
          rcases a with ⟨a, b⟩ | ⟨a, b⟩
          · have s0 : s = 0 := by rw [a, show (0 : Int32).toInt = 0 from by decide] at hx; omega
            rw [if_pos s0, if_neg b]
          · have s3 : s = 3 := by rw [a, show (3 : Int32).toInt = 3 from by decide] at hx; omega
            rw [if_neg (by omega), if_pos s3, if_neg b]
      rw [if_pos rfl]
      by_cases f0 : c_fault = 0
      · rw [if_pos f0]
        refine ok_bad ⟨b2, b3⟩ (ok_vlet ?_)
        exact go _
      · rw [if_neg f0]
        have f2 : c_fault = 2 := by
          rcases hD.2 with ⟨-, z, -⟩ | ⟨-, z⟩
          · exact absurd z f0
          · exact z
        rw [f2]
        exact go _
    · rw [if_neg room]
      rw [tI_le, q2] at room
      have lt : (c_many (5 * φ + s)).toInt < mst s := by omega
      have fa := fst_add hs (c_many (5 * φ + s)).toInt.toNat (by omega)
      have ep : (116 * c_fresh + fo + c_many (5 * φ + s)).toInt = ((116 * φ + fstS s + (c_many (5 * φ + s)).toInt.toNat : Nat) : Int) := by
        generalize c_many (5 * φ + s) = z at bs lt fa
        rw [tI_add, e116]
        omega
      generalize hpp : 116 * φ + fstS s + (c_many (5 * φ + s)).toInt.toNat = p at ep
      have hp : p < 232 ∧ 116 * φ ≤ p ∧ p < 116 * φ + 116 := by omega
      unfold f_X11_part_49
      rw [if_neg (show ¬ (1 : Int32) = 0 by decide)]
      unfold f_X11_part_79
      refine ok_eq q3 ?_
      rw [if_neg (show ¬ (1 : Int32) = 0 by decide)]
      unfold f_X11_part_100
      refine ok_vlet ?_
      rw [if_neg (show ¬ (1 : Int32) = 0 by decide)]
      generalize htt : 116 * c_fresh + fo + c_many (5 * φ + s) = tt at ep
      have etn : tt.toInt.toNat = p := by omega
      refine ok_bad hb5 (ok_vlet (ok_bad hb5 (ok_vlet (ok_bad ⟨b2, b3⟩ (ok_vlet (ok_bad (by omega) (ok_vlet ?_)))))))
      have itt : tt.toNatClampNeg = p := by rw [tI_nat]; exact etn
      have ica : (c_at + 1).toNatClampNeg = (c_at + 1).toInt.toNat := rfl
      rw [i5, itt, ica]
      refine s_143 c_fresh c_text c_tKind c_tPlace c_tSize c_tValue L hL p (hd l.tail).2.2 hp.1 tv FU _ _ _ _ _ _ _ _ _ _ _ _ _ _ ep b2 b3 t1 t2 t3 t5 (by decide) (by rw [show (0 : Int32).toInt = 0 from by decide]; omega) (by rw [FU_eq]; decide) (fun nmx w1 w2 => ?_)
      have w3 : ∀ j, j < (hd l.tail).2.2 → nmx (8 * p + j) = c_text ((c_tPlace (c_at + 1).toInt.toNat).toInt.toNat + j) := fun j hj => (w1 j hj).1 (by rw [show (0 : Int32).toInt = 0 from by decide]; omega)
      have frn : FrM φ c_many c_nameSize c_one c_two c_kinds c_kindBits c_names (upd c_many (5 * φ + s) (c_many (5 * φ + s) + 1)) (upd c_nameSize p (c_tSize (c_at + 1).toInt.toNat)) c_one c_two c_kinds c_kindBits nmx := by
        refine ⟨fun i hi => by rw [upd_at, if_neg (by omega)], fun i hi => ⟨by rw [upd_at, if_neg (by omega)], rfl, rfl, rfl, rfl⟩, fun i hi => w2 i (by omega)⟩
      have gbn : GB (upd c_nameSize p (c_tSize (c_at + 1).toInt.toNat)) c_kinds := by
        intro i hi
        refine ⟨?_, (hG i hi).2⟩
        rw [upd_at]
        split
        · omega
        · exact (hG i hi).1
      have nd := fun (st : StT) (hst : st.1 = s) (hv : tnm st = (hd l.tail).2.1) (one1 two1 kinds1 bits1 : Nat → Int32) ho h0 h3 => newDMs φ s p (hd l.tail).2.2 hs c_fault (c_many (5 * φ + s)) c_many c_nameSize c_one c_two c_kinds c_kindBits c_names (upd c_nameSize p (c_tSize (c_at + 1).toInt.toNat)) one1 two1 kinds1 bits1 nmx S st hst hD rfl lt hpp.symm (fun i hi => by rw [upd_at, if_neg hi]) w2 tv (by rw [upd_at, if_pos rfl]; exact t1) (by rw [hv, t4]; exact pk_cg _ _ _ (fun j hj => by rw [w3 j hj])) (fun j hj => by rw [w3 j hj]; exact t5 j hj) ho h0 h3
      have pk6 := pK_ge 6 0 0 l.tail.tail.tail.tail
      have pkb := pK_bits 6 0 0 l.tail.tail.tail.tail (by decide) (by decide)
      have x01 : ¬ (1 : Int32) = 0 := by decide
      have oth : ∀ (y5 y6 y7 y8 : Int32) (i : Nat), i ≠ p → upd c_one p y5 i = c_one i ∧ upd c_two p y6 i = c_two i ∧ upd c_kinds p y7 i = c_kinds i ∧ upd c_kindBits p y8 i = c_kindBits i := fun y5 y6 y7 y8 i hi => ⟨by rw [upd_at, if_neg hi], by rw [upd_at, if_neg hi], by rw [upd_at, if_neg hi], by rw [upd_at, if_neg hi]⟩
      refine s_193 _ _ _ _ _ _ _ _ _ _ _ _ _ _ _ _ _ _ _ c_text L l.tail n1 nmm.1 hf1 (fun a b ca hca => ?_) (fun a b c ca hca cf => ?_) (fun a b c ca hca cf => ?_) (fun a ca cf y5 y6 => ?_)
      · have s0 : ¬ s = 0 := fun q => a (xs 0 (by rw [q]; decide))
        have s3 : ¬ s = 3 := fun q => b (xs 3 (by rw [q]; decide))
        refine ⟨frn, gbn, ?_⟩
        unfold pPart
        rw [if_pos nm, if_neg s0, if_neg s3]
        exact ⟨hca, nd _ rfl rfl _ _ _ _ (fun i hi => ⟨rfl, rfl, rfl, rfl⟩) (fun q => absurd q s0) (fun q => absurd q s3)⟩
      · have s0 : s = 0 := by rw [a, show (0 : Int32).toInt = 0 from by decide] at hx; omega
        refine ok_eq2 (e_331 _ _ _ _ _ _ _ _ _ _ _ _ _ _ _ _ _ _ _ _ _ _ (.inr (by omega))) ?_
        rw [if_neg x01, etn]
        have b' := (isNr_t _ _ _).mp b
        have c' := (isNr_t _ _ _).mp c
        refine fin_331 c_text L φ s p hφ hs hp.2 _ _ _ _ _ _ _ _ _ _ _ _ _ _ S _ frn gbn ca c_fault _ _ _ _ (by rw [Int32.toInt_ofNat_of_lt (by omega)]; omega) (fun q => ?_) (fun st r q => ?_)
        · unfold pPart at q
          rw [if_pos nm, if_pos s0, if_pos ⟨b, c⟩] at q
          cases q
        · unfold pPart at q
          rw [if_pos nm, if_pos s0, if_pos ⟨b, c⟩] at q
          cases q
          refine ⟨hca, nd _ s0.symm rfl _ _ _ _ (oth _ _ _ _) (fun _ => ?_) (fun q => by omega)⟩
          rw [upd_at, upd_at, upd_at, upd_at, if_pos rfl, if_pos rfl, if_pos rfl, if_pos rfl]
          exact ⟨Int32.toInt_ofNat_of_lt (by omega), Int32.toInt_ofNat_of_lt (by omega), Int32.toInt_ofNat_of_lt (by omega), Int32.toInt_ofNat_of_lt (by omega)⟩
      · have s3 : s = 3 := by rw [a, show (3 : Int32).toInt = 3 from by decide] at hx; omega
        refine ok_eq2 (e_331 _ _ _ _ _ _ _ _ _ _ _ _ _ _ _ _ _ _ _ _ _ _ (.inr (by omega))) ?_
        rw [if_neg x01, etn]
        have b' := (isNr_t _ _ _).mp b
        have c' := (isNr_t _ _ _).mp c
        refine fin_331 c_text L φ s p hφ hs hp.2 _ _ _ _ _ _ _ _ _ _ _ _ _ _ S _ frn gbn ca c_fault _ _ _ _ (by decide) (fun q => ?_) (fun st r q => ?_)
        · unfold pPart at q
          rw [if_pos nm, if_neg (by omega), if_pos s3, if_pos ⟨b, c⟩] at q
          cases q
        · unfold pPart at q
          rw [if_pos nm, if_neg (by omega), if_pos s3, if_pos ⟨b, c⟩] at q
          cases q
          refine ⟨hca, nd _ s3.symm rfl _ _ _ _ (oth _ _ _ _) (fun q => by omega) (fun _ => ?_)⟩
          rw [upd_at, upd_at, if_pos rfl, if_pos rfl]
          exact ⟨Int32.toInt_ofNat_of_lt (by omega), Int32.toInt_ofNat_of_lt (by omega)⟩
      · refine ok_eq2 (e_331 _ _ _ _ _ _ _ _ _ _ _ _ _ _ _ _ _ _ _ _ _ _ (.inr (by omega))) ?_
        rw [if_neg x01, etn]
        have pn : pPart s l.tail = none := by
          unfold pPart
          rw [if_pos nm]
          rcases a with ⟨a, b⟩ | ⟨a, b⟩
          · have s0 : s = 0 := by rw [a, show (0 : Int32).toInt = 0 from by decide] at hx; omega
            rw [if_pos s0, if_neg b]
          · have s3 : s = 3 := by rw [a, show (3 : Int32).toInt = 3 from by decide] at hx; omega
            rw [if_neg (by omega), if_pos s3, if_neg b]
        rw [pn]
        exact fin_331 c_text L φ s p hφ hs hp.2 _ _ _ _ _ _ _ _ _ _ _ _ _ _ S none frn gbn ca 1 _ _ _ _ (by decide) (fun _ => rfl) (fun st r q => by cases q)
  · rw [i01_f nm, if_pos rfl]
    refine ok_bind (s_fail (c_at := c_at + 1) (c_fault := c_fault) (c_faultAt := c_faultAt) (c_tPlace := c_tPlace) (.inr ⟨b2, b3⟩)) (fun r6 h6 => ok_some ⟨frr, hG, ?_⟩)
    unfold pPart
    rw [if_neg nm]
    exact h6
