/-! the reference's nets: the end that a PIN tells -/
set_option maxHeartbeats 400000 in
theorem pc_bad' {α : Type} {i : Int32} {n : Nat} {a : Option α} {Q : α → Prop} (_ : 0 ≤ i.toInt ∧ i.toInt < n) (k : Pc a Q) : Pc (if bad i n = true then none else a) Q := pc_bad (fun _ => k)
set_option maxHeartbeats 400000 in
theorem m_282 (c_fresh : Int32) (c_text : Nat → Int32) (c_tKind : Nat → Int32) (c_tPlace : Nat → Int32) (c_tSize : Nat → Int32) (c_tValue : Nat → Int64) (c_many : Nat → Int32) (c_nameSize : Nat → Int32) (c_kinds : Nat → Int32) (c_names : Nat → Int32) (x1 : Int32) (x6 : Int32) (x7 : Int32) (x8 : Int32) (x9 : Int32) (y0 : Int32) (c_at : Int32) (c_fault : Int32) (c_faultAt : Int32) (s i n g : Nat) (hs : s < 5) (hi : i < mst s) (hn : 1 ≤ n ∧ n ≤ 6) (hg : g ≤ 2) (h7 : x7.toInt = s) (h8 : x8.toInt = i) (h9 : x9.toInt = n) (h6 : x6.toInt = g) : Pc (f_X11_end_282 c_fresh c_text c_tKind c_tPlace c_tSize c_tValue c_many c_nameSize c_kinds c_names x1 x6 x7 x8 x9 y0 c_at c_fault c_faultAt) (fun r => r.1 = -1 ∨ r.1.toInt = ((if s = 0 then 2 + 20 * i + 3 * n - 1 + g else feM s + 2 * i + n - 1 : Nat) : Int)) := by
  unfold f_X11_end_282
  have hm := mst_le s
  refine pc_if (fun _ => pc_any (fun r _ => pc_some (.inl rfl))) (fun _ => pc_if (fun z => ?_) (fun z => ?_))
  · have s0 : s = 0 := by rw [z, l_0] at h7; omega
    subst s0
    refine pc_some (.inr ?_)
    rw [if_pos rfl]
    show (2 + 20 * x8 + 3 * x9 - 1 + x6).toInt = _
    ((try simp only [tI_lt, tI_le, tI_eq, tI_add, tI_sub, tI_mul, tI_nat, Int32.reduceToInt, Int.reduceToNat, fe_0, fe_1, fe_2, fe_3, fe_4, fe_5]) <;> (try simp (disch := omega) only [tI_bm]) <;> omega)
  · have s0 : ¬ s = 0 := fun q => z (Int32.toInt_inj.mp (by rw [h7, q]; rfl))
    obtain ⟨m, m1, m2⟩ := s_firstEnd x7 s h7 (by omega) hs
    have hf : feM s + 2 * mst s ≤ 954 ∧ feM s ≤ 906 := by unfold feM mst; (repeat' split) <;> omega
    refine pc_eq m1 (pc_some (.inr ?_))
    rw [if_neg s0]
    show (m + 2 * x8 + x9 - 1).toInt = _
    ((try simp only [tI_lt, tI_le, tI_eq, tI_add, tI_sub, tI_mul, tI_nat, Int32.reduceToInt, Int.reduceToNat, fe_0, fe_1, fe_2, fe_3, fe_4, fe_5]) <;> (try simp (disch := omega) only [tI_bm]) <;> omega)
set_option maxHeartbeats 400000 in
theorem m_end_163 (c_fresh : Int32) (c_text : Nat → Int32) (c_tKind : Nat → Int32) (c_tPlace : Nat → Int32) (c_tSize : Nat → Int32) (c_tValue : Nat → Int64) (c_many : Nat → Int32) (c_nameSize : Nat → Int32) (c_kinds : Nat → Int32) (c_names : Nat → Int32) (x1 : Int32) (x2 : Int32) (x3 : Int32) (x4 : Int64) (x6 : Int32) (c_at : Int32) (c_fault : Int32) (c_faultAt : Int32) (φ : Nat) (S : List StT) (v c : Nat) (one two bits : Nat → Int32) (hok : okS S = true) (hfr : c_fresh.toInt = φ) (hv : v ≠ 0) (hP : PMr φ c_nameSize c_names one two c_kinds bits S) (hc : ∀ s, s < 5 → cnt s S ≤ mst s)
    (hx2 : (∃ s i, s < 5 ∧ i < cnt s S ∧ (∃ a, AT s i a S ∧ tnm a = v) ∧ x2.toInt = ((fstS s + i : Nat) : Int)) ∨ (x2 = -1 ∧ ∀ t j, t < 5 → j < cnt t S → ¬ ∃ a, AT t j a S ∧ tnm a = v))
    (hcode : (x3 = 1 ∧ ((x4 = Int64.ofNat 112 ∧ c = 0) ∨ (x4 = Int64.ofNat 110 ∧ c = 1))) ∨ (x3 = 0 ∧ ∃ n g : Nat, 1 ≤ n ∧ n ≤ 6 ∧ g ≤ 2 ∧ x4 = Int64.ofNat n ∧ x6.toInt = g ∧ c = 3 * n - 1 + g)) : Pc (f_X11_end_163 c_fresh c_text c_tKind c_tPlace c_tSize c_tValue c_many c_nameSize c_kinds c_names x1 x2 x3 x4 x6 c_at c_fault c_faultAt) (fun r => r.1 = -1 ∨ r.1.toInt = enS S v c) := by
  unfold f_X11_end_163
  refine pc_if (fun _ => pc_any (fun r _ => pc_some (.inl rfl))) (fun hx => ?_)
  rcases hx2 with ⟨s, i, hs, hi, ⟨a, ha, hav⟩, hxv⟩ | ⟨q, -⟩
  · have hm := hc s hs
    have hm2 := mst_le s
    have hf : fstS s + mst s ≤ 116 := by unfold fstS mst; (repeat' split) <;> omega
    refine pc_eq (s_sortOf x2 s i hs (by omega) (by omega)) ?_
    have es : (Int32.ofNat s).toInt = s := Int32.toInt_ofNat_of_lt (by omega)
    obtain ⟨m, m1, m2⟩ := s_first (Int32.ofNat s) s es hs
    refine pc_eq m1 (pc_vlet ?_)
    have e3 : (x2 - m).toInt = i := by ((try simp only [tI_lt, tI_le, tI_eq, tI_add, tI_sub, tI_mul, tI_nat, Int32.reduceToInt, Int.reduceToNat, fe_0, fe_1, fe_2, fe_3, fe_4, fe_5]) <;> (try simp (disch := omega) only [tI_bm]) <;> omega)
    have a1 := (AT_in s i a S ha).1
    have ev : enS S v c = if s = 0 then 2 + 20 * i + c else feM s + 2 * i + (if c = 5 then 1 else 0) := by
      have hl := AT_lk _ _ _ hs S hok ha
      have hx := AT_ix _ _ _ hs S hok ha
      rw [hav] at hl hx
      unfold enS
      rw [if_neg hv, hl, hx]
      dsimp only
      rw [a1]
    have s0 : Int32.ofNat s = 0 ↔ s = 0 := by
      rw [tI_eq, es, l_0]; omega
    have num : ∀ (c9 : Int32) (y : Int32) (n g : Nat), 1 ≤ n → n ≤ 6 → g ≤ 2 → x6.toInt = g → c = 3 * n - 1 + g → (s ≠ 0 → n ≤ 2 ∧ g = 0) → Pc (f_X11_end_282 c_fresh c_text c_tKind c_tPlace c_tSize c_tValue c_many c_nameSize c_kinds c_names x1 x6 (Int32.ofNat s) (x2 - m) (Int32.ofNat n) y c_at c_fault c_faultAt) (fun r => r.1 = -1 ∨ r.1.toInt = enS S v c) := by
      intro c9 y n g n1 n2 g2 c6 c5 hns
      refine pc_mono (m_282 _ _ _ _ _ _ _ _ _ _ _ _ _ _ _ _ _ _ _ s i n g hs (by omega) ⟨n1, n2⟩ g2 es e3 (Int32.toInt_ofNat_of_lt (by omega)) c6) (fun r hr => hr.elim .inl (fun q => .inr ?_))
      rw [q, ev]
      by_cases z : s = 0
      · rw [if_pos z, if_pos z]; omega
      · rw [if_neg z, if_neg z]
        have := hns z
        by_cases w : c = 5
        · rw [if_pos w]; omega
        · rw [if_neg w]; omega
    refine pc_if (fun q3 => ?_) (fun q3 => ?_)
    · rcases hcode with ⟨c3, -⟩ | ⟨c3, n, g, n1, n2, g2, c4, c6, c5⟩
      · rw [q3] at c3; exact absurd c3 (by decide)
      · rw [c4, L_toI (show n < 10000 by omega)]
        refine pc_if (fun z => pc_bad (fun _ => pc_if (fun _ => num 0 _ n g n1 n2 g2 c6 c5 (fun w => absurd (s0.mp z) w)) (fun _ => num 0 _ n g n1 n2 g2 c6 c5 (fun w => absurd (s0.mp z) w)))) (fun z => pc_if (fun _ => ?_) (fun w => pc_if (fun y => ?_) (fun _ => ?_)))
        · unfold f_X11_end_281 f_X11_end_282
          rw [if_pos rfl]
          exact pc_any (fun r _ => pc_some (.inl rfl))
        · rw [tI_lt, Int32.toInt_ofNat_of_lt (by omega), l_2] at w
          refine num 0 _ n g n1 n2 g2 c6 c5 (fun _ => ⟨by omega, ?_⟩)
          rw [y, l_0] at c6; omega
        · unfold f_X11_end_281 f_X11_end_282
          rw [if_pos rfl]
          exact pc_any (fun r _ => pc_some (.inl rfl))
    · rcases hcode with ⟨c3, cc⟩ | ⟨c3, -⟩
      · refine pc_if (fun z => ?_) (fun _ => pc_any (fun r _ => pc_some (.inl rfl)))
        have z0 := s0.mp z
        have hm0 : mst s ≤ 40 := mst_le s
        have lg : ∀ a b : Nat, a < 2 ^ 63 → b < 2 ^ 63 → (lg_cmp (Int64.ofNat a) (Int64.ofNat b) = 0 ↔ a = b) := fun a b ha hb => by rw [lgc, L_eq ha hb]
        rw [show (112 : Int64) = Int64.ofNat 112 from rfl]
        rcases cc with ⟨c4, c5⟩ | ⟨c4, c5⟩
        · rw [c4, if_pos ((lg _ _ (by decide) (by decide)).mpr rfl)]
          refine pc_some (.inr ?_)
          rw [ev, if_pos z0, c5]
          show (2 + 20 * (x2 - m) + 0).toInt = _
          generalize x2 - m = w at e3
          ((try simp only [tI_lt, tI_le, tI_eq, tI_add, tI_sub, tI_mul, tI_nat, Int32.reduceToInt, Int.reduceToNat, fe_0, fe_1, fe_2, fe_3, fe_4, fe_5]) <;> (try simp (disch := omega) only [tI_bm]) <;> omega)
        · rw [c4, if_neg (fun w => absurd ((lg _ _ (by decide) (by decide)).mp w) (by decide))]
          refine pc_some (.inr ?_)
          rw [ev, if_pos z0, c5]
          show (2 + 20 * (x2 - m) + 1).toInt = _
          generalize x2 - m = w at e3
          ((try simp only [tI_lt, tI_le, tI_eq, tI_add, tI_sub, tI_mul, tI_nat, Int32.reduceToInt, Int.reduceToNat, fe_0, fe_1, fe_2, fe_3, fe_4, fe_5]) <;> (try simp (disch := omega) only [tI_bm]) <;> omega)
      · exact absurd c3 q3
  · exact absurd q hx
set_option maxHeartbeats 400000 in
theorem m_end_93 (c_fresh : Int32) (c_text : Nat → Int32) (c_tKind : Nat → Int32) (c_tPlace : Nat → Int32) (c_tSize : Nat → Int32) (c_tValue : Nat → Int64) (c_many : Nat → Int32) (c_nameSize : Nat → Int32) (c_kinds : Nat → Int32) (c_names : Nat → Int32) (x1 : Int32) (x2 : Int32) (y0 : Int32) (c_at : Int32) (c_fault : Int32) (c_faultAt : Int32) (φ : Nat) (S : List StT) (one two bits : Nat → Int32) (hφ : φ ≤ 1) (hfr : c_fresh.toInt = φ) (hP : PMr φ c_nameSize c_names one two c_kinds bits S) (hG : GB c_nameSize c_kinds) (hc : ∀ s, s < 5 → cnt s S ≤ mst s) (hok : okS S = true) (L : Nat) (v v2 c : Nat) (l rest : List TkT) (hf : c_fault = 0) (hv : v ≠ 0) (hx1 : 0 ≤ x1.toInt ∧ x1.toInt < 4001) (h : KM c_text L c_tKind c_tPlace c_tSize c_tValue c_at l) (hp : pEnd v l = some ((v2, c), rest)) (hy : ((hd l).1 = 1 ∧ y0 = 1) ∨ ((hd l).1 ≠ 1 ∧ y0 = 0))
    (hx2 : (∃ s i, s < 5 ∧ i < cnt s S ∧ (∃ a, AT s i a S ∧ tnm a = v) ∧ x2.toInt = ((fstS s + i : Nat) : Int)) ∨ (x2 = -1 ∧ ∀ t j, t < 5 → j < cnt t S → ¬ ∃ a, AT t j a S ∧ tnm a = v)) : Pc (f_X11_end_93 c_fresh c_text c_tKind c_tPlace c_tSize c_tValue c_many c_nameSize c_kinds c_names x1 x2 y0 c_at c_fault c_faultAt) (fun r => r.1 = -1 ∨ r.1.toInt = enS S v2 c) := by
  obtain ⟨b2, b3, b4, b5, b6⟩ := KM_hd h
  have hf1 : ¬ c_fault = 1 := by rw [hf]; decide
  have fin : ∀ (ca x6 : Int32), v2 = v → KM c_text L c_tKind c_tPlace c_tSize c_tValue ca rest → ((y0 = 1 ∧ ((c_tValue c_at.toInt.toNat = Int64.ofNat 112 ∧ c = 0) ∨ (c_tValue c_at.toInt.toNat = Int64.ofNat 110 ∧ c = 1))) ∨ (y0 = 0 ∧ ∃ n g : Nat, 1 ≤ n ∧ n ≤ 6 ∧ g ≤ 2 ∧ c_tValue c_at.toInt.toNat = Int64.ofNat n ∧ x6.toInt = g ∧ c = 3 * n - 1 + g)) → Pc (f_X11_end_163 c_fresh c_text c_tKind c_tPlace c_tSize c_tValue c_many c_nameSize c_kinds c_names x1 x2 y0 (c_tValue c_at.toInt.toNat) x6 ca c_fault c_faultAt) (fun r => r.1 = -1 ∨ r.1.toInt = enS S v2 c) := by
    intro ca x6 e hk hcode
    subst e
    exact m_end_163 (x1 := x1) (x2 := x2) (x3 := y0) (x4 := c_tValue c_at.toInt.toNat) (x6 := x6) (c_at := ca) (c_fault := c_fault) (c_faultAt := c_faultAt) (c_fresh := c_fresh) (c_text := c_text) (c_tKind := c_tKind) (c_tPlace := c_tPlace) (c_tSize := c_tSize) (c_tValue := c_tValue) (c_many := c_many) (c_nameSize := c_nameSize) (c_kinds := c_kinds) (c_names := c_names) φ S v2 c one two bits hok hfr hv hP hc hx2 hcode
  unfold f_X11_end_93
  refine pc_bad' ⟨b2, b3⟩ (pc_vlet (pc_vlet ?_))
  rw [tI_nat]
  unfold pEnd at hp
  have mv := fun g => (mm_v b4 b6 g).1
  -- a coil's end
  have coil : ∀ w : Nat, isWd l w = true → v2 = v → rest = l.tail → ((w = 112 ∧ c = 0) ∨ (w = 110 ∧ c = 1)) → Pc (((f_X11_isSign (43 : Int32) (c_at + 1) c_fault c_tKind c_tValue)).bind fun r4 => if r4 = 0 then (((f_X11_isSign (45 : Int32) (c_at + 1) c_fault c_tKind c_tValue)).bind fun r5 => if r5 = 0 then (((f_X11_end_142 c_fresh c_text c_tKind c_tPlace c_tSize c_tValue c_many c_nameSize c_kinds c_names x1 x2 y0 (c_tValue c_at.toInt.toNat) (0 : Int32) (c_at + 1) c_fault c_faultAt))) else (((f_X11_end_142 c_fresh c_text c_tKind c_tPlace c_tSize c_tValue c_many c_nameSize c_kinds c_names x1 x2 y0 (c_tValue c_at.toInt.toNat) (2 : Int32) (c_at + 1) c_fault c_faultAt)))) else (((f_X11_end_142 c_fresh c_text c_tKind c_tPlace c_tSize c_tValue c_many c_nameSize c_kinds c_names x1 x2 y0 (c_tValue c_at.toInt.toNat) (1 : Int32) (c_at + 1) c_fault c_faultAt)))) (fun r => r.1 = -1 ∨ r.1.toInt = enS S v2 c) := by
    intro w hw e er hc2
    have n1 := (KM_next h (.inl (hd1 hw))).1
    have y1 : y0 = 1 := by
      rcases hy with q | q
      · exact q.2
      · exact absurd (hd1 hw) q.1
    have vv : c_tValue c_at.toInt.toNat = Int64.ofNat w := by rw [mv (.inl (hd1 hw)), ((isWd_t _ _).mp hw).2]
    have go : ∀ z : Int32, Pc (f_X11_end_142 c_fresh c_text c_tKind c_tPlace c_tSize c_tValue c_many c_nameSize c_kinds c_names x1 x2 y0 (c_tValue c_at.toInt.toNat) z (c_at + 1) c_fault c_faultAt) (fun r => r.1 = -1 ∨ r.1.toInt = enS S v2 c) := by
      intro z
      unfold f_X11_end_142
      rw [if_neg (by rw [y1]; decide)]
      refine fin _ _ e (by rw [er]; exact n1) (.inl ⟨y1, ?_⟩)
      rw [vv]
      rcases hc2 with q | q
      · exact .inl ⟨by rw [q.1], q.2⟩
      · exact .inr ⟨by rw [q.1], q.2⟩
    refine pc_eq (e_isSign _ _ _ _ _ c_text L c_tPlace c_tSize l.tail n1 (by decide)) (pc_if (fun _ => ?_) (fun _ => go _))
    exact pc_eq (e_isSign _ _ _ _ _ c_text L c_tPlace c_tSize l.tail n1 (by decide)) (pc_if (fun _ => go _) (fun _ => go _))
  by_cases w1 : isWd l 112 = true
  · rw [if_pos w1] at hp
    injection hp with hp; injection hp with p1 p2; injection p1 with p3 p4
    exact coil 112 w1 p3.symm p2.symm (.inl ⟨rfl, p4.symm⟩)
  rw [if_neg w1] at hp
  by_cases w2 : isWd l 110 = true
  · rw [if_pos w2] at hp
    injection hp with hp; injection hp with p1 p2; injection p1 with p3 p4
    exact coil 110 w2 p3.symm p2.symm (.inr ⟨rfl, p4.symm⟩)
  rw [if_neg w2] at hp
  by_cases w3 : isNr l 1 6 = true
  · rw [if_pos w3] at hp
    have nr := (isNr_t _ _ _).mp w3
    have n1 := (KM_next h (.inr (.inl nr.1))).1
    have y1 : y0 = 0 := by
      rcases hy with q | q
      · exfalso; omega
      · exact q.2
    have vv : c_tValue c_at.toInt.toNat = Int64.ofNat (hd l).2.1 := mv (.inr (.inl nr.1))
    refine pc_eq (e_isSign _ _ _ _ _ c_text L c_tPlace c_tSize l.tail n1 (by decide)) ?_
    rw [show (43 : Int32).toInt.toNat = 43 from by decide]
    by_cases s1 : isSn l.tail 43 = true
    · rw [if_pos s1] at hp
      injection hp with hp; injection hp with p1 p2; injection p1 with p3 p4
      rw [i01_t hf1 s1, if_neg (by decide)]
      unfold f_X11_end_142
      rw [if_pos y1, if_neg (by decide)]
      refine pc_vlet (fin _ _ p3.symm (by rw [← p2]; exact (KM_next n1 (.inr (.inr (hd3 s1)))).1) (.inr ⟨y1, (hd l).2.1, 1, nr.2.1, nr.2.2, by decide, vv, by decide, by omega⟩))
    rw [if_neg s1] at hp
    rw [i01_f s1, if_pos rfl]
    refine pc_eq (e_isSign _ _ _ _ _ c_text L c_tPlace c_tSize l.tail n1 (by decide)) ?_
    rw [show (45 : Int32).toInt.toNat = 45 from by decide]
    by_cases s2 : isSn l.tail 45 = true
    · rw [if_pos s2] at hp
      injection hp with hp; injection hp with p1 p2; injection p1 with p3 p4
      rw [i01_t hf1 s2, if_neg (by decide)]
      unfold f_X11_end_142
      rw [if_pos y1, if_neg (by decide)]
      refine pc_vlet (fin _ _ p3.symm (by rw [← p2]; exact (KM_next n1 (.inr (.inr (hd3 s2)))).1) (.inr ⟨y1, (hd l).2.1, 2, nr.2.1, nr.2.2, by decide, vv, by decide, by omega⟩))
    rw [if_neg s2] at hp
    injection hp with hp; injection hp with p1 p2; injection p1 with p3 p4
    rw [i01_f s2, if_pos rfl]
    unfold f_X11_end_142
    rw [if_pos y1, if_pos (by decide)]
    exact fin _ _ p3.symm (by rw [← p2]; exact n1) (.inr ⟨y1, (hd l).2.1, 0, nr.2.1, nr.2.2, by decide, vv, by decide, by omega⟩)
  · rw [if_neg w3] at hp
    cases hp
set_option maxHeartbeats 400000 in
theorem m_end (c_at : Int32) (c_fault : Int32) (c_faultAt : Int32) (c_fresh : Int32) (c_text : Nat → Int32) (c_tKind : Nat → Int32) (c_tPlace : Nat → Int32) (c_tSize : Nat → Int32) (c_tValue : Nat → Int64) (c_many : Nat → Int32) (c_nameSize : Nat → Int32) (c_kinds : Nat → Int32) (c_names : Nat → Int32) (φ : Nat) (S : List StT) (one two bits : Nat → Int32) (hφ : φ ≤ 1) (hfr : c_fresh.toInt = φ) (hP : PMr φ c_nameSize c_names one two c_kinds bits S) (hG : GB c_nameSize c_kinds) (hc : ∀ s, s < 5 → cnt s S ≤ mst s) (hok : okS S = true) (L : Nat) (l rest : List TkT) (p : PinT) (hL : L ≤ 4000) (hf : c_fault = 0) (h : KM c_text L c_tKind c_tPlace c_tSize c_tValue c_at l) (hmn : ∀ s, s < 5 → (c_many (5 * φ + s)).toInt = cnt s S) (hp : pPin l = some (p, rest)) : Pc (f_X11_end c_at c_fault c_faultAt c_fresh c_text c_tKind c_tPlace c_tSize c_tValue c_many c_nameSize c_kinds c_names) (fun r => r.1 = -1 ∨ r.1.toInt = enS S p.1 p.2) := by
  obtain ⟨b2, b3, b4, b5, b6⟩ := KM_hd h
  have hf1 : ¬ c_fault = 1 := by rw [hf]; decide
  unfold f_X11_end
  unfold pPin at hp
  have rail : ∀ w : Nat, isWd l w = true → rest = l.tail → ((w = 1886156147 ∧ p = (0, 0)) ∨ (w = 469920281971 ∧ p = (0, 1))) → Pc (f_X11_end_20 c_fresh c_text c_tKind c_tPlace c_tSize c_tValue c_many c_nameSize c_kinds c_names c_at c_fault c_faultAt) (fun r => r.1 = -1 ∨ r.1.toInt = enS S p.1 p.2) := by
    intro w hw er hc2
    obtain ⟨n1, n2, n3⟩ := KM_next h (.inl (hd1 hw))
    unfold f_X11_end_20
    have e1 : c_at + 1 - 1 = c_at := by
      apply Int32.toInt_inj.mp
      rw [tI_sub, n3, show (1 : Int32).toInt = 1 from by decide]
      omega
    refine pc_vlet ?_
    rw [e1]
    have vv : c_tValue c_at.toInt.toNat = Int64.ofNat w := by rw [(mm_v b4 b6 (.inl (hd1 hw))).1, ((isWd_t _ _).mp hw).2]
    refine pc_bad' ⟨b2, b3⟩ ?_
    rw [tI_nat]
    have lg : ∀ a b : Nat, a < 2 ^ 63 → b < 2 ^ 63 → (lg_cmp (Int64.ofNat a) (Int64.ofNat b) = 0 ↔ a = b) := fun a b ha hb => by rw [lgc, L_eq ha hb]
    rw [vv, show (1886156147 : Int64) = Int64.ofNat 1886156147 from rfl]
    rcases hc2 with ⟨q1, q2⟩ | ⟨q1, q2⟩
    · rw [q1, if_pos ((lg _ _ (by decide) (by decide)).mpr rfl)]
      refine pc_some (.inr ?_)
      rw [q2]; rfl
    · rw [q1, if_neg (fun z => absurd ((lg _ _ (by decide) (by decide)).mp z) (by decide))]
      refine pc_some (.inr ?_)
      rw [q2]; rfl
  refine pc_eq (e_isWord _ _ _ _ _ c_text L c_tPlace c_tSize l h 1886156147 (by decide) rfl) ?_
  by_cases c1 : isWd l 1886156147 = true
  · rw [if_pos c1] at hp
    injection hp with hp; injection hp with p1 p2
    rw [i01_t hf1 c1, if_neg (by decide)]
    exact rail _ c1 p2.symm (.inl ⟨rfl, p1.symm⟩)
  rw [if_neg c1] at hp
  rw [i01_f c1, if_pos rfl]
  refine pc_eq (e_isWord _ _ _ _ _ c_text L c_tPlace c_tSize l h 469920281971 (by decide) rfl) ?_
  by_cases c2 : isWd l 469920281971 = true
  · rw [if_pos c2] at hp
    injection hp with hp; injection hp with p1 p2
    rw [i01_t hf1 c2, if_neg (by decide)]
    exact rail _ c2 p2.symm (.inr ⟨rfl, p1.symm⟩)
  rw [if_neg c2] at hp
  rw [i01_f c2, if_pos rfl]
  by_cases c3 : isNm l = true
  · rw [if_pos c3] at hp
    have nm := (isNm_t l).mp c3
    obtain ⟨n1, n2, n3⟩ := KM_next h (.inl nm.1)
    obtain ⟨t1, t2⟩ := KM_TkN h nm.1
    by_cases c4 : isSn l.tail 46 = true
    · rw [if_pos c4] at hp
      obtain ⟨m1, m2, m3⟩ := KM_next n1 (.inr (.inr (hd3 c4)))
      have e2 : c_at + 1 + 1 = c_at + 2 := by
        apply Int32.toInt_inj.mp
        ((try simp only [tI_lt, tI_le, tI_eq, tI_add, tI_sub, tI_mul, tI_nat, Int32.reduceToInt, Int.reduceToNat, fe_0, fe_1, fe_2, fe_3, fe_4, fe_5]) <;> (try simp (disch := omega) only [tI_bm]) <;> omega)
      rw [e2] at m1
      refine pc_bind (pc_ok (s_named _ _ _ _ _ _ _ _ φ (fun s => cnt s S) (fun s i => ∃ a, AT s i a S ∧ tnm a = (hd l).2.1) hφ hfr (fun s hs => by have := hc s hs; have := mst_le s; omega) hmn (fun s i y hs hi hy => s_alikeAt (x1 := y) (x2 := c_at) (c_text := c_text) (c_tPlace := c_tPlace) (c_tSize := c_tSize) (c_nameSize := c_nameSize) (c_names := c_names) φ L (hd l).2.1 s i S one two c_kinds bits hφ hL hs hi (hc s hs) hP hy ⟨b2, b3⟩ t1))) (fun r3 h3 => ?_)
      have h3' : (∃ s i, s < 5 ∧ i < cnt s S ∧ (∃ a, AT s i a S ∧ tnm a = (hd l).2.1) ∧ r3.toInt = ((fstS s + i : Nat) : Int)) ∨ (r3 = -1 ∧ ∀ t j, t < 5 → j < cnt t S → ¬ ∃ a, AT t j a S ∧ tnm a = (hd l).2.1) := by
        rcases h3 with ⟨s, i, q1, q2, q3, q4, q5, q6⟩ | q
        · exact .inl ⟨s, i, q1, q2, q3, by omega⟩
        · exact .inr q
      have bb := KM_hd m1
      refine pc_vlet (pc_bad' ⟨bb.1, bb.2.1⟩ ?_)
      rw [tI_nat]
      obtain ⟨pv, pc⟩ := p
      have k1 : c_tKind (c_at + 2).toInt.toNat = 1 ↔ (hd l.tail.tail).1 = 1 := by
        rw [tI_eq, bb.2.2.1.1, show (1 : Int32).toInt = 1 from by decide]; omega
      refine pc_if (fun q => ?_) (fun q => ?_)
      · exact m_end_93 (x1 := c_at) (x2 := r3) (y0 := 1) (c_at := c_at + 2) (c_fault := c_fault) (c_faultAt := c_faultAt) (c_fresh := c_fresh) (c_text := c_text) (c_tKind := c_tKind) (c_tPlace := c_tPlace) (c_tSize := c_tSize) (c_tValue := c_tValue) (c_many := c_many) (c_nameSize := c_nameSize) (c_kinds := c_kinds) (c_names := c_names) φ S one two bits hφ hfr hP hG hc hok L (hd l).2.1 pv pc l.tail.tail rest hf t2 ⟨b2, b3⟩ m1 hp (.inl ⟨k1.mp q, rfl⟩) h3'
      · exact m_end_93 (x1 := c_at) (x2 := r3) (y0 := 0) (c_at := c_at + 2) (c_fault := c_fault) (c_faultAt := c_faultAt) (c_fresh := c_fresh) (c_text := c_text) (c_tKind := c_tKind) (c_tPlace := c_tPlace) (c_tSize := c_tSize) (c_tValue := c_tValue) (c_many := c_many) (c_nameSize := c_nameSize) (c_kinds := c_kinds) (c_names := c_names) φ S one two bits hφ hfr hP hG hc hok L (hd l).2.1 pv pc l.tail.tail rest hf t2 ⟨b2, b3⟩ m1 hp (.inr ⟨fun z => q (k1.mpr z), rfl⟩) h3'
    · rw [if_neg c4] at hp; cases hp
  · rw [if_neg c3] at hp; cases hp
