/-! the end that a PIN tells, from its tokens -/
def EndM (t : Nat → Int32) (L : Nat) (kd pl sz : Nat → Int32) (vl : Nat → Int64) (S : List StT) (p : PinT) (rest : List TkT) (r : Int32 × Int32 × Int32 × Int32) : Prop := (r.1 = -1 ∧ r.2.2.1 = 3 ∧ (okS S = true → okPin S p.1 p.2 = false)) ∨ (0 ≤ r.1.toInt ∧ r.1.toInt < 954 ∧ KM t L kd pl sz vl r.2.1 rest ∧ r.2.2.1 = 0 ∧ (okS S = true → okPin S p.1 p.2 = true))
set_option maxHeartbeats 400000 in
theorem KM_TkN {t : Nat → Int32} {L : Nat} {kd pl sz : Nat → Int32} {vl : Nat → Int64} {a : Int32} {l : List TkT} (h : KM t L kd pl sz vl a l) (h1 : (hd l).1 = 1) : TkN pl sz t L a.toInt.toNat (hd l).2.1 ∧ (hd l).2.1 ≠ 0 := by
  obtain ⟨b2, b3, b4, b5, b6⟩ := KM_hd h
  have tv : (hd l).2.2 ≤ 8 ∧ 1 ≤ (hd l).2.1 := by
    rcases b6 with q | q | q
    · rcases q.1 with z | z | z
      · exact ⟨z.2.2.2.2.1, z.2.2.1⟩
      · omega
      · omega
    · omega
    · omega
  exact ⟨⟨hd l, h1, tv.1, rfl, b4.2.2 h1⟩, by omega⟩
set_option maxHeartbeats 400000 in
theorem s_end_93 (c_fresh : Int32) (c_text : Nat → Int32) (c_tKind : Nat → Int32) (c_tPlace : Nat → Int32) (c_tSize : Nat → Int32) (c_tValue : Nat → Int64) (c_many : Nat → Int32) (c_nameSize : Nat → Int32) (c_kinds : Nat → Int32) (c_names : Nat → Int32) (x1 : Int32) (x2 : Int32) (y0 : Int32) (c_at : Int32) (c_fault : Int32) (c_faultAt : Int32) (φ : Nat) (S : List StT) (one two bits : Nat → Int32) (hφ : φ ≤ 1) (hfr : c_fresh.toInt = φ) (hP : PMr φ c_nameSize c_names one two c_kinds bits S) (hG : GB c_nameSize c_kinds) (hc : ∀ s, s < 5 → cnt s S ≤ mst s) (L : Nat) (v v2 c : Nat) (l rest : List TkT) (hf : c_fault = 0) (hv : v ≠ 0) (hx1 : 0 ≤ x1.toInt ∧ x1.toInt < 4001) (h : KM c_text L c_tKind c_tPlace c_tSize c_tValue c_at l) (hp : pEnd v l = some ((v2, c), rest)) (hy : ((hd l).1 = 1 ∧ y0 = 1) ∨ ((hd l).1 ≠ 1 ∧ y0 = 0))
    (hx2 : (∃ s i, s < 5 ∧ i < cnt s S ∧ (∃ a, AT s i a S ∧ tnm a = v) ∧ x2.toInt = ((fstS s + i : Nat) : Int)) ∨ (x2 = -1 ∧ ∀ t j, t < 5 → j < cnt t S → ¬ ∃ a, AT t j a S ∧ tnm a = v)) : Ok (f_X11_end_93 c_fresh c_text c_tKind c_tPlace c_tSize c_tValue c_many c_nameSize c_kinds c_names x1 x2 y0 c_at c_fault c_faultAt) (EndM c_text L c_tKind c_tPlace c_tSize c_tValue S (v2, c) rest) := by
  obtain ⟨b2, b3, b4, b5, b6⟩ := KM_hd h
  have hf1 : ¬ c_fault = 1 := by rw [hf]; decide
  have fin : ∀ (ca x6 : Int32), v2 = v → KM c_text L c_tKind c_tPlace c_tSize c_tValue ca rest → ((y0 = 1 ∧ ((c_tValue c_at.toInt.toNat = Int64.ofNat 112 ∧ c = 0) ∨ (c_tValue c_at.toInt.toNat = Int64.ofNat 110 ∧ c = 1))) ∨ (y0 = 0 ∧ ∃ n g : Nat, 1 ≤ n ∧ n ≤ 6 ∧ g ≤ 2 ∧ c_tValue c_at.toInt.toNat = Int64.ofNat n ∧ x6.toInt = g ∧ c = 3 * n - 1 + g)) → Ok (f_X11_end_163 c_fresh c_text c_tKind c_tPlace c_tSize c_tValue c_many c_nameSize c_kinds c_names x1 x2 y0 (c_tValue c_at.toInt.toNat) x6 ca c_fault c_faultAt) (EndM c_text L c_tKind c_tPlace c_tSize c_tValue S (v2, c) rest) := by
    intro ca x6 e hk hcode
    subst e
    refine ok_mono (s_end_163 (x1 := x1) (x2 := x2) (x3 := y0) (x4 := c_tValue c_at.toInt.toNat) (x6 := x6) (c_at := ca) (c_fault := c_fault) (c_faultAt := c_faultAt) (c_fresh := c_fresh) (c_text := c_text) (c_tKind := c_tKind) (c_tPlace := c_tPlace) (c_tSize := c_tSize) (c_tValue := c_tValue) (c_many := c_many) (c_nameSize := c_nameSize) (c_kinds := c_kinds) (c_names := c_names) φ S v2 c one two bits hφ hfr hv hx1 hP hG hc hx2 hcode) (fun r hr => ?_)
    rcases hr with q | ⟨q1, q2, q3, q4, q5⟩
    · exact .inl q
    · exact .inr ⟨q1, q2, by rw [q3]; exact hk, by rw [q4, hf], q5⟩
  unfold f_X11_end_93
  refine ok_bad ⟨b2, b3⟩ (ok_vlet (ok_vlet ?_))
  rw [tI_nat]
  unfold pEnd at hp
  have mv := fun g => (mm_v b4 b6 g).1
  -- a coil's end
  have coil : ∀ w : Nat, isWd l w = true → v2 = v → rest = l.tail → ((w = 112 ∧ c = 0) ∨ (w = 110 ∧ c = 1)) → Ok (((f_X11_isSign (43 : Int32) (c_at + 1) c_fault c_tKind c_tValue)).bind fun r4 => if r4 = 0 then (((f_X11_isSign (45 : Int32) (c_at + 1) c_fault c_tKind c_tValue)).bind fun r5 => if r5 = 0 then (((f_X11_end_142 c_fresh c_text c_tKind c_tPlace c_tSize c_tValue c_many c_nameSize c_kinds c_names x1 x2 y0 (c_tValue c_at.toInt.toNat) (0 : Int32) (c_at + 1) c_fault c_faultAt))) else (((f_X11_end_142 c_fresh c_text c_tKind c_tPlace c_tSize c_tValue c_many c_nameSize c_kinds c_names x1 x2 y0 (c_tValue c_at.toInt.toNat) (2 : Int32) (c_at + 1) c_fault c_faultAt)))) else (((f_X11_end_142 c_fresh c_text c_tKind c_tPlace c_tSize c_tValue c_many c_nameSize c_kinds c_names x1 x2 y0 (c_tValue c_at.toInt.toNat) (1 : Int32) (c_at + 1) c_fault c_faultAt)))) (EndM c_text L c_tKind c_tPlace c_tSize c_tValue S (v2, c) rest) := by
    intro w hw e er hc2
    have n1 := (KM_next h (.inl (hd1 hw))).1
    have y1 : y0 = 1 := by
      rcases hy with q | q
      · exact q.2
      · exact absurd (hd1 hw) q.1
    have vv : c_tValue c_at.toInt.toNat = Int64.ofNat w := by rw [mv (.inl (hd1 hw)), ((isWd_t _ _).mp hw).2]
    have go : ∀ z : Int32, Ok (f_X11_end_142 c_fresh c_text c_tKind c_tPlace c_tSize c_tValue c_many c_nameSize c_kinds c_names x1 x2 y0 (c_tValue c_at.toInt.toNat) z (c_at + 1) c_fault c_faultAt) (EndM c_text L c_tKind c_tPlace c_tSize c_tValue S (v2, c) rest) := by
      intro z
      unfold f_X11_end_142
      rw [if_neg (by rw [y1]; decide)]
      refine fin _ _ e (by rw [er]; exact n1) (.inl ⟨y1, ?_⟩)
      rw [vv]
      rcases hc2 with q | q
      · exact .inl ⟨by rw [q.1], q.2⟩
      · exact .inr ⟨by rw [q.1], q.2⟩
    refine ok_eq (e_isSign _ _ _ _ _ c_text L c_tPlace c_tSize l.tail n1 (by decide)) (ok_if (fun _ => ?_) (fun _ => go _))
    exact ok_eq (e_isSign _ _ _ _ _ c_text L c_tPlace c_tSize l.tail n1 (by decide)) (ok_if (fun _ => go _) (fun _ => go _))
  by_cases w1 : isWd l 112 = true
  · rw [if_pos w1] at hp
    injection hp with hp; injection hp with p1 p2; injection p1 with p3 p4
    exact coil 112 w1 p3.symm p2.symm (.inl ⟨rfl, p4.symm⟩)
  rw [if_neg w1] at hp
  by_cases w2 : isWd l 110 = true
  · rw [if_pos w2] at hp
    injection hp with hp; injection hp with p1 p2; injection p1 with p3 p4
    exact coil 110 w2 p3.symm p2.symm (.inr ⟨rfl, p4.symm⟩)
  rw [if_neg w2] at hp
  by_cases w3 : isNr l 1 6 = true
  · rw [if_pos w3] at hp
    have nr := (isNr_t _ _ _).mp w3
    have n1 := (KM_next h (.inr (.inl nr.1))).1
    have y1 : y0 = 0 := by
      rcases hy with q | q
      · exfalso; omega
      · exact q.2
    have vv : c_tValue c_at.toInt.toNat = Int64.ofNat (hd l).2.1 := mv (.inr (.inl nr.1))
    refine ok_eq (e_isSign _ _ _ _ _ c_text L c_tPlace c_tSize l.tail n1 (by decide)) ?_
    rw [show (43 : Int32).toInt.toNat = 43 from by decide]
    by_cases s1 : isSn l.tail 43 = true
    · rw [if_pos s1] at hp
      injection hp with hp; injection hp with p1 p2; injection p1 with p3 p4
      rw [i01_t hf1 s1, if_neg (by decide)]
      unfold f_X11_end_142
      rw [if_pos y1, if_neg (by decide)]
      refine ok_vlet (fin _ _ p3.symm (by rw [← p2]; exact (KM_next n1 (.inr (.inr (hd3 s1)))).1) (.inr ⟨y1, (hd l).2.1, 1, nr.2.1, nr.2.2, by decide, vv, by decide, by omega⟩))
    rw [if_neg s1] at hp
    rw [i01_f s1, if_pos rfl]
    refine ok_eq (e_isSign _ _ _ _ _ c_text L c_tPlace c_tSize l.tail n1 (by decide)) ?_
    rw [show (45 : Int32).toInt.toNat = 45 from by decide]
    by_cases s2 : isSn l.tail 45 = true
    · rw [if_pos s2] at hp
      injection hp with hp; injection hp with p1 p2; injection p1 with p3 p4
      rw [i01_t hf1 s2, if_neg (by decide)]
      unfold f_X11_end_142
      rw [if_pos y1, if_neg (by decide)]
      refine ok_vlet (fin _ _ p3.symm (by rw [← p2]; exact (KM_next n1 (.inr (.inr (hd3 s2)))).1) (.inr ⟨y1, (hd l).2.1, 2, nr.2.1, nr.2.2, by decide, vv, by decide, by omega⟩))
    rw [if_neg s2] at hp
    injection hp with hp; injection hp with p1 p2; injection p1 with p3 p4
    rw [i01_f s2, if_pos rfl]
    unfold f_X11_end_142
    rw [if_pos y1, if_pos (by decide)]
    exact fin _ _ p3.symm (by rw [← p2]; exact n1) (.inr ⟨y1, (hd l).2.1, 0, nr.2.1, nr.2.2, by decide, vv, by decide, by omega⟩)
  · rw [if_neg w3] at hp
    cases hp
set_option maxHeartbeats 400000 in
theorem s_end (c_at : Int32) (c_fault : Int32) (c_faultAt : Int32) (c_fresh : Int32) (c_text : Nat → Int32) (c_tKind : Nat → Int32) (c_tPlace : Nat → Int32) (c_tSize : Nat → Int32) (c_tValue : Nat → Int64) (c_many : Nat → Int32) (c_nameSize : Nat → Int32) (c_kinds : Nat → Int32) (c_names : Nat → Int32) (φ : Nat) (S : List StT) (one two bits : Nat → Int32) (hφ : φ ≤ 1) (hfr : c_fresh.toInt = φ) (hP : PMr φ c_nameSize c_names one two c_kinds bits S) (hG : GB c_nameSize c_kinds) (hc : ∀ s, s < 5 → cnt s S ≤ mst s) (L : Nat) (l rest : List TkT) (p : PinT) (hL : L ≤ 4000) (hf : c_fault = 0) (h : KM c_text L c_tKind c_tPlace c_tSize c_tValue c_at l) (hmn : ∀ s, s < 5 → (c_many (5 * φ + s)).toInt = cnt s S) (hp : pPin l = some (p, rest)) : Ok (f_X11_end c_at c_fault c_faultAt c_fresh c_text c_tKind c_tPlace c_tSize c_tValue c_many c_nameSize c_kinds c_names) (EndM c_text L c_tKind c_tPlace c_tSize c_tValue S p rest) := by
  obtain ⟨b2, b3, b4, b5, b6⟩ := KM_hd h
  have hf1 : ¬ c_fault = 1 := by rw [hf]; decide
  unfold f_X11_end
  unfold pPin at hp
  have rail : ∀ w : Nat, isWd l w = true → rest = l.tail → ((w = 1886156147 ∧ p = (0, 0)) ∨ (w = 469920281971 ∧ p = (0, 1))) → Ok (f_X11_end_20 c_fresh c_text c_tKind c_tPlace c_tSize c_tValue c_many c_nameSize c_kinds c_names c_at c_fault c_faultAt) (EndM c_text L c_tKind c_tPlace c_tSize c_tValue S p rest) := by
    intro w hw er hc2
    obtain ⟨n1, n2, n3⟩ := KM_next h (.inl (hd1 hw))
    unfold f_X11_end_20
    have e1 : c_at + 1 - 1 = c_at := by
      apply Int32.toInt_inj.mp
      rw [tI_sub, n3, show (1 : Int32).toInt = 1 from by decide]
      omega
    refine ok_vlet ?_
    rw [e1]
    have vv : c_tValue c_at.toInt.toNat = Int64.ofNat w := by rw [(mm_v b4 b6 (.inl (hd1 hw))).1, ((isWd_t _ _).mp hw).2]
    refine ok_bad ⟨b2, b3⟩ ?_
    rw [er]
    have kp : okPin S p.1 p.2 = true := by
      rcases hc2 with q | q <;> rw [q.2] <;> rfl
    exact ok_if (fun _ => ok_some (.inr ⟨show 0 ≤ (0 : Int32).toInt from by decide, show (0 : Int32).toInt < 954 from by decide, n1, hf, fun _ => kp⟩)) (fun _ => ok_some (.inr ⟨show 0 ≤ (1 : Int32).toInt from by decide, show (1 : Int32).toInt < 954 from by decide, n1, hf, fun _ => kp⟩))
  refine ok_eq (e_isWord _ _ _ _ _ c_text L c_tPlace c_tSize l h 1886156147 (by decide) rfl) ?_
  by_cases c1 : isWd l 1886156147 = true
  · rw [if_pos c1] at hp
    injection hp with hp; injection hp with p1 p2
    rw [i01_t hf1 c1, if_neg (by decide)]
    exact rail _ c1 p2.symm (.inl ⟨rfl, p1.symm⟩)
  rw [if_neg c1] at hp
  rw [i01_f c1, if_pos rfl]
  refine ok_eq (e_isWord _ _ _ _ _ c_text L c_tPlace c_tSize l h 469920281971 (by decide) rfl) ?_
  by_cases c2 : isWd l 469920281971 = true
  · rw [if_pos c2] at hp
    injection hp with hp; injection hp with p1 p2
    rw [i01_t hf1 c2, if_neg (by decide)]
    exact rail _ c2 p2.symm (.inr ⟨rfl, p1.symm⟩)
  rw [if_neg c2] at hp
  rw [i01_f c2, if_pos rfl]
  by_cases c3 : isNm l = true
  · rw [if_pos c3] at hp
    have nm := (isNm_t l).mp c3
    obtain ⟨n1, n2, n3⟩ := KM_next h (.inl nm.1)
    obtain ⟨t1, t2⟩ := KM_TkN h nm.1
    by_cases c4 : isSn l.tail 46 = true
    · rw [if_pos c4] at hp
      obtain ⟨m1, m2, m3⟩ := KM_next n1 (.inr (.inr (hd3 c4)))
      have e2 : c_at + 1 + 1 = c_at + 2 := by
        apply Int32.toInt_inj.mp
        ((try simp only [tI_lt, tI_le, tI_eq, tI_add, tI_sub, tI_mul, tI_nat, Int32.reduceToInt, Int.reduceToNat, fe_0, fe_1, fe_2, fe_3, fe_4, fe_5]) <;> (try simp (disch := omega) only [tI_bm]) <;> omega)
      rw [e2] at m1
      refine ok_bind (s_named _ _ _ _ _ _ _ _ φ (fun s => cnt s S) (fun s i => ∃ a, AT s i a S ∧ tnm a = (hd l).2.1) hφ hfr (fun s hs => by have := hc s hs; have := mst_le s; omega) hmn (fun s i y hs hi hy => s_alikeAt (x1 := y) (x2 := c_at) (c_text := c_text) (c_tPlace := c_tPlace) (c_tSize := c_tSize) (c_nameSize := c_nameSize) (c_names := c_names) φ L (hd l).2.1 s i S one two c_kinds bits hφ hL hs hi (hc s hs) hP hy ⟨b2, b3⟩ t1)) (fun r3 h3 => ?_)
      have h3' : (∃ s i, s < 5 ∧ i < cnt s S ∧ (∃ a, AT s i a S ∧ tnm a = (hd l).2.1) ∧ r3.toInt = ((fstS s + i : Nat) : Int)) ∨ (r3 = -1 ∧ ∀ t j, t < 5 → j < cnt t S → ¬ ∃ a, AT t j a S ∧ tnm a = (hd l).2.1) := by
        rcases h3 with ⟨s, i, q1, q2, q3, q4, q5, q6⟩ | q
        · exact .inl ⟨s, i, q1, q2, q3, by omega⟩
        · exact .inr q
      have bb := KM_hd m1
      refine ok_vlet (ok_bad ⟨bb.1, bb.2.1⟩ ?_)
      rw [tI_nat]
      obtain ⟨pv, pc⟩ := p
      have k1 : c_tKind (c_at + 2).toInt.toNat = 1 ↔ (hd l.tail.tail).1 = 1 := by
        rw [tI_eq, bb.2.2.1.1, show (1 : Int32).toInt = 1 from by decide]; omega
      refine ok_if (fun q => ?_) (fun q => ?_)
      · exact s_end_93 (x1 := c_at) (x2 := r3) (y0 := 1) (c_at := c_at + 2) (c_fault := c_fault) (c_faultAt := c_faultAt) (c_fresh := c_fresh) (c_text := c_text) (c_tKind := c_tKind) (c_tPlace := c_tPlace) (c_tSize := c_tSize) (c_tValue := c_tValue) (c_many := c_many) (c_nameSize := c_nameSize) (c_kinds := c_kinds) (c_names := c_names) φ S one two bits hφ hfr hP hG hc L (hd l).2.1 pv pc l.tail.tail rest hf t2 ⟨b2, b3⟩ m1 hp (.inl ⟨k1.mp q, rfl⟩) h3'
      · exact s_end_93 (x1 := c_at) (x2 := r3) (y0 := 0) (c_at := c_at + 2) (c_fault := c_fault) (c_faultAt := c_faultAt) (c_fresh := c_fresh) (c_text := c_text) (c_tKind := c_tKind) (c_tPlace := c_tPlace) (c_tSize := c_tSize) (c_tValue := c_tValue) (c_many := c_many) (c_nameSize := c_nameSize) (c_kinds := c_kinds) (c_names := c_names) φ S one two bits hφ hfr hP hG hc L (hd l).2.1 pv pc l.tail.tail rest hf t2 ⟨b2, b3⟩ m1 hp (.inr ⟨fun z => q (k1.mpr z), rfl⟩) h3'
    · rw [if_neg c4] at hp; cases hp
  · rw [if_neg c3] at hp; cases hp
