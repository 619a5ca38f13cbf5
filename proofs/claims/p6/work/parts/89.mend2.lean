/-! the end that a PIN tells -/
def feM (s : Nat) : Nat := if s = 1 then 802 else if s = 2 then 850 else if s = 3 then 898 else 906
set_option maxHeartbeats 400000 in
theorem s_firstEnd (x : Int32) (s : Nat) (h : x.toInt = s) (h1 : 1 ≤ s) (hs : s < 5) : ∃ m : Int32, f_X11_firstEnd x = some m ∧ m.toInt = feM s := by
  have : s = 1 ∨ s = 2 ∨ s = 3 ∨ s = 4 := by omega
  have e : ∀ k : Int32, k.toInt = s → x = k := fun k hk => Int32.toInt_inj.mp (by rw [h, hk])
  rcases this with z | z | z | z <;> subst z
  · rw [e 1 (by decide)]; exact ⟨802, rfl, by decide⟩
  · rw [e 2 (by decide)]; exact ⟨850, rfl, by decide⟩
  · rw [e 3 (by decide)]; exact ⟨898, rfl, by decide⟩
  · rw [e 4 (by decide)]; exact ⟨906, rfl, by decide⟩
set_option maxHeartbeats 400000 in
theorem s_names (x1 : Int32) (c_fault : Int32) (c_faultAt : Int32) (c_tPlace : Nat → Int32) (h : 0 ≤ x1.toInt ∧ x1.toInt < 4001) : Ok (f_X11_names x1 c_fault c_faultAt c_tPlace) (fun q => q.1 = 3) := by
  unfold f_X11_names
  exact ok_bad h (ok_vlet (ok_some rfl))
set_option maxHeartbeats 400000 in
theorem okPin_some {S : List StT} {v c : Nat} {a : StT} (hv : v ≠ 0) (hl : lk v S = some a) : okPin S v c = if a.1 = 0 then decide (c < 2 + 3 * nkd a) else (decide (c = 2) || decide (c = 5)) := by
  unfold okPin
  rw [if_neg hv, hl]
set_option maxHeartbeats 400000 in
theorem okPin_none {S : List StT} {v c : Nat} (hv : v ≠ 0) (hl : lk v S = none) : okPin S v c = false := by
  unfold okPin
  rw [if_neg hv, hl]
def EndP (S : List StT) (v c : Nat) (ca f : Int32) (r : Int32 × Int32 × Int32 × Int32) : Prop := (r.1 = -1 ∧ r.2.2.1 = 3 ∧ (okS S = true → okPin S v c = false)) ∨ (0 ≤ r.1.toInt ∧ r.1.toInt < 954 ∧ r.2.1 = ca ∧ r.2.2.1 = f ∧ (okS S = true → okPin S v c = true))
set_option maxHeartbeats 400000 in
theorem s_282_0 (c_fresh : Int32) (c_text : Nat → Int32) (c_tKind : Nat → Int32) (c_tPlace : Nat → Int32) (c_tSize : Nat → Int32) (c_tValue : Nat → Int64) (c_many : Nat → Int32) (c_nameSize : Nat → Int32) (c_kinds : Nat → Int32) (c_names : Nat → Int32) (x1 : Int32) (x6 : Int32) (x7 : Int32) (x8 : Int32) (x9 : Int32) (y0 : Int32) (c_at : Int32) (c_fault : Int32) (c_faultAt : Int32) (hx1 : 0 ≤ x1.toInt ∧ x1.toInt < 4001) (hy : y0 = 0) : Ok (f_X11_end_282 c_fresh c_text c_tKind c_tPlace c_tSize c_tValue c_many c_nameSize c_kinds c_names x1 x6 x7 x8 x9 y0 c_at c_fault c_faultAt) (fun r => r.1 = -1 ∧ r.2.2.1 = 3) := by
  unfold f_X11_end_282
  rw [if_pos hy]
  exact ok_bind (s_names _ _ _ _ hx1) (fun r h => ok_some ⟨rfl, h⟩)
set_option maxHeartbeats 400000 in
theorem s_282_1 (c_fresh : Int32) (c_text : Nat → Int32) (c_tKind : Nat → Int32) (c_tPlace : Nat → Int32) (c_tSize : Nat → Int32) (c_tValue : Nat → Int64) (c_many : Nat → Int32) (c_nameSize : Nat → Int32) (c_kinds : Nat → Int32) (c_names : Nat → Int32) (x1 : Int32) (x6 : Int32) (x7 : Int32) (x8 : Int32) (x9 : Int32) (y0 : Int32) (c_at : Int32) (c_fault : Int32) (c_faultAt : Int32) (s i n g : Nat) (hs : s < 5) (hi : i < mst s) (hn : 1 ≤ n ∧ n ≤ 6) (hg : g ≤ 2) (hgs : s ≠ 0 → g = 0 ∧ n ≤ 2) (h7 : x7.toInt = s) (h8 : x8.toInt = i) (h9 : x9.toInt = n) (h6 : x6.toInt = g) (hy : ¬ y0 = 0) : Ok (f_X11_end_282 c_fresh c_text c_tKind c_tPlace c_tSize c_tValue c_many c_nameSize c_kinds c_names x1 x6 x7 x8 x9 y0 c_at c_fault c_faultAt) (fun r => 0 ≤ r.1.toInt ∧ r.1.toInt < 954 ∧ r.2.1 = c_at ∧ r.2.2.1 = c_fault) := by
  unfold f_X11_end_282
  rw [if_neg hy]
  have hm := mst_le s
  by_cases s0 : s = 0
  · rw [if_pos (Int32.toInt_inj.mp (by rw [h7, s0]; rfl))]
    subst s0
    have e : (2 + 20 * x8 + 3 * x9 - 1 + x6).toInt = 2 + 20 * i + 3 * n - 1 + g := by ((try simp only [tI_lt, tI_le, tI_eq, tI_add, tI_sub, tI_mul, tI_nat, Int32.reduceToInt, Int.reduceToNat, fe_0, fe_1, fe_2, fe_3, fe_4, fe_5]) <;> (try simp (disch := omega) only [tI_bm]) <;> omega)
    exact ok_some ⟨by rw [e]; omega, by rw [e]; omega, rfl, rfl⟩
  · rw [if_neg (fun q => by rw [q, show (0 : Int32).toInt = 0 from by decide] at h7; omega)]
    obtain ⟨m, m1, m2⟩ := s_firstEnd x7 s h7 (by omega) hs
    have hf : feM s + 2 * mst s ≤ 954 ∧ feM s ≤ 906 := by unfold feM mst; (repeat' split) <;> omega
    have hgs' := hgs s0
    refine ok_eq m1 ?_
    have e : (m + 2 * x8 + x9 - 1).toInt = feM s + 2 * i + n - 1 := by ((try simp only [tI_lt, tI_le, tI_eq, tI_add, tI_sub, tI_mul, tI_nat, Int32.reduceToInt, Int.reduceToNat, fe_0, fe_1, fe_2, fe_3, fe_4, fe_5]) <;> (try simp (disch := omega) only [tI_bm]) <;> omega)
    exact ok_some ⟨by rw [e]; omega, by rw [e]; omega, rfl, rfl⟩
set_option maxHeartbeats 400000 in
theorem s_end_163 (c_fresh : Int32) (c_text : Nat → Int32) (c_tKind : Nat → Int32) (c_tPlace : Nat → Int32) (c_tSize : Nat → Int32) (c_tValue : Nat → Int64) (c_many : Nat → Int32) (c_nameSize : Nat → Int32) (c_kinds : Nat → Int32) (c_names : Nat → Int32) (x1 : Int32) (x2 : Int32) (x3 : Int32) (x4 : Int64) (x6 : Int32) (c_at : Int32) (c_fault : Int32) (c_faultAt : Int32) (φ : Nat) (S : List StT) (v c : Nat) (one two bits : Nat → Int32) (hφ : φ ≤ 1) (hfr : c_fresh.toInt = φ) (hv : v ≠ 0) (hx1 : 0 ≤ x1.toInt ∧ x1.toInt < 4001) (hP : PMr φ c_nameSize c_names one two c_kinds bits S) (hG : GB c_nameSize c_kinds) (hc : ∀ s, s < 5 → cnt s S ≤ mst s)
    (hx2 : (∃ s i, s < 5 ∧ i < cnt s S ∧ (∃ a, AT s i a S ∧ tnm a = v) ∧ x2.toInt = ((fstS s + i : Nat) : Int)) ∨ (x2 = -1 ∧ ∀ t j, t < 5 → j < cnt t S → ¬ ∃ a, AT t j a S ∧ tnm a = v))
    (hcode : (x3 = 1 ∧ ((x4 = Int64.ofNat 112 ∧ c = 0) ∨ (x4 = Int64.ofNat 110 ∧ c = 1))) ∨ (x3 = 0 ∧ ∃ n g : Nat, 1 ≤ n ∧ n ≤ 6 ∧ g ≤ 2 ∧ x4 = Int64.ofNat n ∧ x6.toInt = g ∧ c = 3 * n - 1 + g)) : Ok (f_X11_end_163 c_fresh c_text c_tKind c_tPlace c_tSize c_tValue c_many c_nameSize c_kinds c_names x1 x2 x3 x4 x6 c_at c_fault c_faultAt) (EndP S v c c_at c_fault) := by
  unfold f_X11_end_163
  have nms : (okS S = true → okPin S v c = false) → Ok (((f_X11_names x1 c_fault c_faultAt c_tPlace)).bind fun r6 => some ((-1 : Int32), c_at, r6.1, r6.2)) (EndP S v c c_at c_fault) := fun k => ok_bind (s_names _ _ _ _ hx1) (fun r h => ok_some (.inl ⟨rfl, h, k⟩))
  rcases hx2 with ⟨s, i, hs, hi, ⟨a, ha, hav⟩, hx⟩ | ⟨hx, hno⟩
  · have hm := hc s hs
    have hm2 := mst_le s
    have hf : fstS s + mst s ≤ 116 := by unfold fstS mst; (repeat' split) <;> omega
    rw [if_neg (fun q => by rw [q, show (-1 : Int32).toInt = -1 from by decide] at hx; omega)]
    refine ok_eq (s_sortOf x2 s i hs (by omega) (by omega)) ?_
    have es : (Int32.ofNat s).toInt = s := Int32.toInt_ofNat_of_lt (by omega)
    obtain ⟨m, m1, m2⟩ := s_first (Int32.ofNat s) s es hs
    refine ok_eq m1 (ok_vlet ?_)
    have e3 : (x2 - m).toInt = i := by ((try simp only [tI_lt, tI_le, tI_eq, tI_add, tI_sub, tI_mul, tI_nat, Int32.reduceToInt, Int.reduceToNat, fe_0, fe_1, fe_2, fe_3, fe_4, fe_5]) <;> (try simp (disch := omega) only [tI_bm]) <;> omega)
    obtain ⟨p1, p2, p3⟩ := PMr_at φ _ _ _ _ _ _ s i a hs S hP ha
    have kv : okS S = true → okPin S v c = if s = 0 then decide (c < 2 + 3 * nkd a) else (decide (c = 2) || decide (c = 5)) := fun ho => by
      rw [okPin_some hv (lk_some v s i a hs hav S ho ha), p1]
    have s0 : Int32.ofNat s = 0 ↔ s = 0 := by
      rw [tI_eq, es, show (0 : Int32).toInt = 0 from by decide]; omega
    rcases hcode with ⟨c3, cc⟩ | ⟨c3, n, g, n1, n2, g2, c4, c6, c5⟩
    · rw [if_neg (by rw [c3]; decide)]
      by_cases z : s = 0
      · rw [if_pos (s0.mpr z)]
        have kc : okS S = true → okPin S v c = true := fun ho => by
          rw [kv ho, if_pos z, decide_eq_true_eq]
          rcases cc with q | q <;> omega
        subst z
        have hm0 : mst 0 = 40 := rfl
        have e0 : (2 + 20 * (x2 - m) + 0).toInt = 2 + 20 * i := by
          generalize x2 - m = w at e3
          ((try simp only [tI_lt, tI_le, tI_eq, tI_add, tI_sub, tI_mul, tI_nat, Int32.reduceToInt, Int.reduceToNat, fe_0, fe_1, fe_2, fe_3, fe_4, fe_5]) <;> (try simp (disch := omega) only [tI_bm]) <;> omega)
        have e1 : (2 + 20 * (x2 - m) + 1).toInt = 2 + 20 * i + 1 := by
          generalize x2 - m = w at e3
          ((try simp only [tI_lt, tI_le, tI_eq, tI_add, tI_sub, tI_mul, tI_nat, Int32.reduceToInt, Int.reduceToNat, fe_0, fe_1, fe_2, fe_3, fe_4, fe_5]) <;> (try simp (disch := omega) only [tI_bm]) <;> omega)
        refine ok_if (fun _ => ok_some (.inr ⟨?_, ?_, rfl, rfl, kc⟩)) (fun _ => ok_some (.inr ⟨?_, ?_, rfl, rfl, kc⟩))
        · show 0 ≤ (2 + 20 * (x2 - m) + 0).toInt; omega
        · show (2 + 20 * (x2 - m) + 0).toInt < 954; omega
        · show 0 ≤ (2 + 20 * (x2 - m) + 1).toInt; omega
        · show (2 + 20 * (x2 - m) + 1).toInt < 954; omega
      · rw [if_neg (fun q => z (s0.mp q))]
        refine nms (fun ho => ?_)
        rw [kv ho, if_neg z]
        rcases cc with ⟨-, q⟩ | ⟨-, q⟩ <;> rw [q] <;> decide
    · rw [if_pos c3, c4, L_toI (show n < 10000 by omega)]
      have en : (Int32.ofNat n).toInt = n := Int32.toInt_ofNat_of_lt (by omega)
      have no : (okS S = true → okPin S v c = false) → Ok (f_X11_end_282 c_fresh c_text c_tKind c_tPlace c_tSize c_tValue c_many c_nameSize c_kinds c_names x1 x6 (Int32.ofNat s) (x2 - m) (Int32.ofNat n) (0 : Int32) c_at c_fault c_faultAt) (EndP S v c c_at c_fault) := fun k => ok_mono (s_282_0 _ _ _ _ _ _ _ _ _ _ _ _ _ _ _ _ _ _ _ hx1 rfl) (fun r h => .inl ⟨h.1, h.2, k⟩)
      have yes : (s ≠ 0 → g = 0 ∧ n ≤ 2) → (okS S = true → okPin S v c = true) → Ok (f_X11_end_282 c_fresh c_text c_tKind c_tPlace c_tSize c_tValue c_many c_nameSize c_kinds c_names x1 x6 (Int32.ofNat s) (x2 - m) (Int32.ofNat n) (1 : Int32) c_at c_fault c_faultAt) (EndP S v c c_at c_fault) := fun kk k => ok_mono (s_282_1 _ _ _ _ _ _ _ _ _ _ _ _ _ _ _ _ _ _ _ s i n g hs (by omega) ⟨n1, n2⟩ g2 kk es e3 en c6 (by decide)) (fun r h => .inr ⟨h.1, h.2.1, h.2.2.1, h.2.2.2, k⟩)
      by_cases z : s = 0
      · rw [if_pos (s0.mpr z)]
        have eb : (116 * c_fresh + x2).toInt = 116 * φ + (fstS s + i) := by ((try simp only [tI_lt, tI_le, tI_eq, tI_add, tI_sub, tI_mul, tI_nat, Int32.reduceToInt, Int.reduceToNat, fe_0, fe_1, fe_2, fe_3, fe_4, fe_5]) <;> (try simp (disch := omega) only [tI_bm]) <;> omega)
        refine ok_bad (by omega) ?_
        have ei : (116 * c_fresh + x2).toNatClampNeg = 116 * φ + fstS s + i := by rw [tI_nat]; omega
        rw [ei]
        have p3' := p3 z
        refine ok_if (fun q => ?_) (fun q => ?_)
        · rw [tI_lt, en, p3'] at q
          refine no (fun ho => ?_)
          rw [kv ho, if_pos z, decide_eq_false_iff_not]
          omega
        · rw [tI_lt, en, p3'] at q
          refine yes (fun w => absurd z w) (fun ho => ?_)
          rw [kv ho, if_pos z, decide_eq_true_eq]
          omega
      · rw [if_neg (fun q => z (s0.mp q))]
        refine ok_if (fun q => ?_) (fun q => ?_)
        · rw [tI_lt, en, show (2 : Int32).toInt = 2 from by decide] at q
          unfold f_X11_end_281
          refine no (fun ho => ?_)
          rw [kv ho, if_neg z, Bool.or_eq_false_iff, decide_eq_false_iff_not, decide_eq_false_iff_not]
          omega
        · rw [tI_lt, en, show (2 : Int32).toInt = 2 from by decide] at q
          refine ok_if (fun w => ?_) (fun w => ?_)
          · have g0 : g = 0 := by rw [w, show (0 : Int32).toInt = 0 from by decide] at c6; omega
            refine yes (fun _ => ⟨g0, by omega⟩) (fun ho => ?_)
            rw [kv ho, if_neg z, Bool.or_eq_true, decide_eq_true_eq, decide_eq_true_eq]
            omega
          · have g0 : g ≠ 0 := fun q9 => w (Int32.toInt_inj.mp (by rw [c6, q9]; rfl))
            unfold f_X11_end_281
            refine no (fun ho => ?_)
            rw [kv ho, if_neg z, Bool.or_eq_false_iff, decide_eq_false_iff_not, decide_eq_false_iff_not]
            omega
  · rw [if_pos hx]
    refine nms (fun _ => okPin_none hv (lk_none v S (fun t j a ht hat e => hno t j ht (cnt_at t j a S hat).1 ⟨a, hat, e⟩)))
